section
-- ===== PART A: goes FIRST, ahead of the names: the tables' words, and 'selects' of the private methods out of them =====
/-- a private method of a class that the tables say can be made, by its rows of tables_1 -/
def lw_okq (q : MethodName × Nat) : Prop := (q.1.cls ≠ "java/lang/invoke/MethodHandle" ∧ q.1.cls ≠ "java/lang/invoke/VarHandle") ∧ Cond.instantiable q.1.cls q.2 ∈ tables_1 ∧ Cond.privateMethod q.1 ∈ tables_1 ∧ Cond.instanceMethod q.1 ∈ tables_1
theorem lw_p0 : lw_okq (⟨"HopMeet", "isUser", "(I)Z"⟩, 8) := ⟨⟨by decide +kernel, by decide +kernel⟩, List.mem_of_getElem? (i := 10) (by decide +kernel), List.mem_of_getElem? (i := 178) (by decide +kernel), List.mem_of_getElem? (i := 179) (by decide +kernel)⟩
theorem lw_p1 : lw_okq (⟨"HopMeet", "change", "(III)I"⟩, 8) := ⟨⟨by decide +kernel, by decide +kernel⟩, List.mem_of_getElem? (i := 10) (by decide +kernel), List.mem_of_getElem? (i := 184) (by decide +kernel), List.mem_of_getElem? (i := 185) (by decide +kernel)⟩
theorem lw_p2 : lw_okq (⟨"HopMeet$Scene", "aimOfJumpAndStay", "(III)I"⟩, 6) := ⟨⟨by decide +kernel, by decide +kernel⟩, List.mem_of_getElem? (i := 18) (by decide +kernel), List.mem_of_getElem? (i := 260) (by decide +kernel), List.mem_of_getElem? (i := 261) (by decide +kernel)⟩
theorem lw_p3 : lw_okq (⟨"HopMeet$Scene", "isShut", "(III)Z"⟩, 6) := ⟨⟨by decide +kernel, by decide +kernel⟩, List.mem_of_getElem? (i := 18) (by decide +kernel), List.mem_of_getElem? (i := 290) (by decide +kernel), List.mem_of_getElem? (i := 291) (by decide +kernel)⟩
theorem lw_p4 : lw_okq (⟨"HopMeet", "areTwoUsers", "(II)Z"⟩, 8) := ⟨⟨by decide +kernel, by decide +kernel⟩, List.mem_of_getElem? (i := 10) (by decide +kernel), List.mem_of_getElem? (i := 306) (by decide +kernel), List.mem_of_getElem? (i := 307) (by decide +kernel)⟩
theorem lw_p5 : lw_okq (⟨"HopMeet", "worstOfShifts", "(III)I"⟩, 8) := ⟨⟨by decide +kernel, by decide +kernel⟩, List.mem_of_getElem? (i := 10) (by decide +kernel), List.mem_of_getElem? (i := 322) (by decide +kernel), List.mem_of_getElem? (i := 323) (by decide +kernel)⟩
theorem lw_p6 : lw_okq (⟨"HopMeet", "slotsToMeet", "(I)I"⟩, 8) := ⟨⟨by decide +kernel, by decide +kernel⟩, List.mem_of_getElem? (i := 10) (by decide +kernel), List.mem_of_getElem? (i := 328) (by decide +kernel), List.mem_of_getElem? (i := 329) (by decide +kernel)⟩
theorem lw_p7 : lw_okq (⟨"HopMeet", "countTimesOn", "(II)V"⟩, 8) := ⟨⟨by decide +kernel, by decide +kernel⟩, List.mem_of_getElem? (i := 10) (by decide +kernel), List.mem_of_getElem? (i := 347) (by decide +kernel), List.mem_of_getElem? (i := 348) (by decide +kernel)⟩
theorem lw_p8 : lw_okq (⟨"HopMeet$Groups", "settle", "(II)V"⟩, 4) := ⟨⟨by decide +kernel, by decide +kernel⟩, List.mem_of_getElem? (i := 81) (by decide +kernel), List.mem_of_getElem? (i := 362) (by decide +kernel), List.mem_of_getElem? (i := 363) (by decide +kernel)⟩
theorem lw_p9 : lw_okq (⟨"HopMeet$Groups", "join", "(II)V"⟩, 4) := ⟨⟨by decide +kernel, by decide +kernel⟩, List.mem_of_getElem? (i := 81) (by decide +kernel), List.mem_of_getElem? (i := 366) (by decide +kernel), List.mem_of_getElem? (i := 367) (by decide +kernel)⟩
theorem lw_p10 : lw_okq (⟨"HopMeetModel", "layPrime", "()V"⟩, 10) := ⟨⟨by decide +kernel, by decide +kernel⟩, List.mem_of_getElem? (i := 390) (by decide +kernel), List.mem_of_getElem? (i := 396) (by decide +kernel), List.mem_of_getElem? (i := 397) (by decide +kernel)⟩
theorem lw_p11 : lw_okq (⟨"HopMeetModel", "anew", "()V"⟩, 10) := ⟨⟨by decide +kernel, by decide +kernel⟩, List.mem_of_getElem? (i := 390) (by decide +kernel), List.mem_of_getElem? (i := 403) (by decide +kernel), List.mem_of_getElem? (i := 404) (by decide +kernel)⟩
theorem lw_p12 : lw_okq (⟨"HopMeetModel", "note", "()V"⟩, 10) := ⟨⟨by decide +kernel, by decide +kernel⟩, List.mem_of_getElem? (i := 390) (by decide +kernel), List.mem_of_getElem? (i := 454) (by decide +kernel), List.mem_of_getElem? (i := 455) (by decide +kernel)⟩
theorem lw_p13 : lw_okq (⟨"HopMeetModel", "all", "()I"⟩, 10) := ⟨⟨by decide +kernel, by decide +kernel⟩, List.mem_of_getElem? (i := 390) (by decide +kernel), List.mem_of_getElem? (i := 461) (by decide +kernel), List.mem_of_getElem? (i := 462) (by decide +kernel)⟩
theorem lw_p14 : lw_okq (⟨"HopMeetModel", "isUser", "(I)Z"⟩, 10) := ⟨⟨by decide +kernel, by decide +kernel⟩, List.mem_of_getElem? (i := 390) (by decide +kernel), List.mem_of_getElem? (i := 469) (by decide +kernel), List.mem_of_getElem? (i := 470) (by decide +kernel)⟩
theorem lw_p15 : lw_okq (⟨"HopMeetModel", "becomes", "(III)I"⟩, 10) := ⟨⟨by decide +kernel, by decide +kernel⟩, List.mem_of_getElem? (i := 390) (by decide +kernel), List.mem_of_getElem? (i := 474) (by decide +kernel), List.mem_of_getElem? (i := 475) (by decide +kernel)⟩
def lw_privs_1 : List (MethodName × Nat) := [(⟨"HopMeet", "isUser", "(I)Z"⟩, 8), (⟨"HopMeet", "change", "(III)I"⟩, 8), (⟨"HopMeet$Scene", "aimOfJumpAndStay", "(III)I"⟩, 6), (⟨"HopMeet$Scene", "isShut", "(III)Z"⟩, 6), (⟨"HopMeet", "areTwoUsers", "(II)Z"⟩, 8), (⟨"HopMeet", "worstOfShifts", "(III)I"⟩, 8), (⟨"HopMeet", "slotsToMeet", "(I)I"⟩, 8), (⟨"HopMeet", "countTimesOn", "(II)V"⟩, 8), (⟨"HopMeet$Groups", "settle", "(II)V"⟩, 4), (⟨"HopMeet$Groups", "join", "(II)V"⟩, 4), (⟨"HopMeetModel", "layPrime", "()V"⟩, 10), (⟨"HopMeetModel", "anew", "()V"⟩, 10), (⟨"HopMeetModel", "note", "()V"⟩, 10), (⟨"HopMeetModel", "all", "()I"⟩, 10), (⟨"HopMeetModel", "isUser", "(I)Z"⟩, 10), (⟨"HopMeetModel", "becomes", "(III)I"⟩, 10)]
theorem lw_r1 : ∀ q ∈ lw_privs_1, lw_okq q := List.forall_mem_cons.mpr ⟨lw_p0, List.forall_mem_cons.mpr ⟨lw_p1, List.forall_mem_cons.mpr ⟨lw_p2, List.forall_mem_cons.mpr ⟨lw_p3, List.forall_mem_cons.mpr ⟨lw_p4, List.forall_mem_cons.mpr ⟨lw_p5, List.forall_mem_cons.mpr ⟨lw_p6, List.forall_mem_cons.mpr ⟨lw_p7, List.forall_mem_cons.mpr ⟨lw_p8, List.forall_mem_cons.mpr ⟨lw_p9, List.forall_mem_cons.mpr ⟨lw_p10, List.forall_mem_cons.mpr ⟨lw_p11, List.forall_mem_cons.mpr ⟨lw_p12, List.forall_mem_cons.mpr ⟨lw_p13, List.forall_mem_cons.mpr ⟨lw_p14, List.forall_mem_cons.mpr ⟨lw_p15, fun _ h => absurd h List.not_mem_nil⟩⟩⟩⟩⟩⟩⟩⟩⟩⟩⟩⟩⟩⟩⟩⟩
theorem lw_p16 : lw_okq (⟨"HopMeetModel", "of", "(II)I"⟩, 10) := ⟨⟨by decide +kernel, by decide +kernel⟩, List.mem_of_getElem? (i := 390) (by decide +kernel), List.mem_of_getElem? (i := 478) (by decide +kernel), List.mem_of_getElem? (i := 479) (by decide +kernel)⟩
theorem lw_p17 : lw_okq (⟨"HopMeetModel", "drawn", "(I)I"⟩, 10) := ⟨⟨by decide +kernel, by decide +kernel⟩, List.mem_of_getElem? (i := 390) (by decide +kernel), List.mem_of_getElem? (i := 496) (by decide +kernel), List.mem_of_getElem? (i := 497) (by decide +kernel)⟩
theorem lw_p18 : lw_okq (⟨"HopMeetModel", "common", "()I"⟩, 10) := ⟨⟨by decide +kernel, by decide +kernel⟩, List.mem_of_getElem? (i := 390) (by decide +kernel), List.mem_of_getElem? (i := 502) (by decide +kernel), List.mem_of_getElem? (i := 503) (by decide +kernel)⟩
theorem lw_p19 : lw_okq (⟨"HopMeetModel", "groups", "()I"⟩, 10) := ⟨⟨by decide +kernel, by decide +kernel⟩, List.mem_of_getElem? (i := 390) (by decide +kernel), List.mem_of_getElem? (i := 514) (by decide +kernel), List.mem_of_getElem? (i := 515) (by decide +kernel)⟩
theorem lw_p20 : lw_okq (⟨"HopMeetModel", "points", "(II)I"⟩, 10) := ⟨⟨by decide +kernel, by decide +kernel⟩, List.mem_of_getElem? (i := 390) (by decide +kernel), List.mem_of_getElem? (i := 526) (by decide +kernel), List.mem_of_getElem? (i := 527) (by decide +kernel)⟩
theorem lw_p21 : lw_okq (⟨"HopMeetModel", "place", "(II)I"⟩, 10) := ⟨⟨by decide +kernel, by decide +kernel⟩, List.mem_of_getElem? (i := 390) (by decide +kernel), List.mem_of_getElem? (i := 534) (by decide +kernel), List.mem_of_getElem? (i := 535) (by decide +kernel)⟩
theorem lw_p22 : lw_okq (⟨"HopMeetModel", "whyNot", "(II)I"⟩, 10) := ⟨⟨by decide +kernel, by decide +kernel⟩, List.mem_of_getElem? (i := 390) (by decide +kernel), List.mem_of_getElem? (i := 538) (by decide +kernel), List.mem_of_getElem? (i := 539) (by decide +kernel)⟩
theorem lw_p23 : lw_okq (⟨"HopMeetModel", "lands", "(II)I"⟩, 10) := ⟨⟨by decide +kernel, by decide +kernel⟩, List.mem_of_getElem? (i := 390) (by decide +kernel), List.mem_of_getElem? (i := 542) (by decide +kernel), List.mem_of_getElem? (i := 543) (by decide +kernel)⟩
theorem lw_p24 : lw_okq (⟨"HopMeetModel", "isShut", "(III)Z"⟩, 10) := ⟨⟨by decide +kernel, by decide +kernel⟩, List.mem_of_getElem? (i := 390) (by decide +kernel), List.mem_of_getElem? (i := 549) (by decide +kernel), List.mem_of_getElem? (i := 550) (by decide +kernel)⟩
theorem lw_p25 : lw_okq (⟨"HopMeetModel", "areTwo", "(II)Z"⟩, 10) := ⟨⟨by decide +kernel, by decide +kernel⟩, List.mem_of_getElem? (i := 390) (by decide +kernel), List.mem_of_getElem? (i := 561) (by decide +kernel), List.mem_of_getElem? (i := 562) (by decide +kernel)⟩
theorem lw_p26 : lw_okq (⟨"HopMeetModel", "isMet", "(III)Z"⟩, 10) := ⟨⟨by decide +kernel, by decide +kernel⟩, List.mem_of_getElem? (i := 390) (by decide +kernel), List.mem_of_getElem? (i := 565) (by decide +kernel), List.mem_of_getElem? (i := 566) (by decide +kernel)⟩
theorem lw_p27 : lw_okq (⟨"HopMeetModel", "worstOf", "(III)I"⟩, 10) := ⟨⟨by decide +kernel, by decide +kernel⟩, List.mem_of_getElem? (i := 390) (by decide +kernel), List.mem_of_getElem? (i := 573) (by decide +kernel), List.mem_of_getElem? (i := 574) (by decide +kernel)⟩
theorem lw_p28 : lw_okq (⟨"HopMeetModel", "slot", "()V"⟩, 10) := ⟨⟨by decide +kernel, by decide +kernel⟩, List.mem_of_getElem? (i := 390) (by decide +kernel), List.mem_of_getElem? (i := 594) (by decide +kernel), List.mem_of_getElem? (i := 595) (by decide +kernel)⟩
theorem lw_p29 : lw_okq (⟨"HopMeetModel", "join", "(II)V"⟩, 10) := ⟨⟨by decide +kernel, by decide +kernel⟩, List.mem_of_getElem? (i := 390) (by decide +kernel), List.mem_of_getElem? (i := 598) (by decide +kernel), List.mem_of_getElem? (i := 599) (by decide +kernel)⟩
def lw_privs_2 : List (MethodName × Nat) := [(⟨"HopMeetModel", "of", "(II)I"⟩, 10), (⟨"HopMeetModel", "drawn", "(I)I"⟩, 10), (⟨"HopMeetModel", "common", "()I"⟩, 10), (⟨"HopMeetModel", "groups", "()I"⟩, 10), (⟨"HopMeetModel", "points", "(II)I"⟩, 10), (⟨"HopMeetModel", "place", "(II)I"⟩, 10), (⟨"HopMeetModel", "whyNot", "(II)I"⟩, 10), (⟨"HopMeetModel", "lands", "(II)I"⟩, 10), (⟨"HopMeetModel", "isShut", "(III)Z"⟩, 10), (⟨"HopMeetModel", "areTwo", "(II)Z"⟩, 10), (⟨"HopMeetModel", "isMet", "(III)Z"⟩, 10), (⟨"HopMeetModel", "worstOf", "(III)I"⟩, 10), (⟨"HopMeetModel", "slot", "()V"⟩, 10), (⟨"HopMeetModel", "join", "(II)V"⟩, 10)]
theorem lw_r2 : ∀ q ∈ lw_privs_2, lw_okq q := List.forall_mem_cons.mpr ⟨lw_p16, List.forall_mem_cons.mpr ⟨lw_p17, List.forall_mem_cons.mpr ⟨lw_p18, List.forall_mem_cons.mpr ⟨lw_p19, List.forall_mem_cons.mpr ⟨lw_p20, List.forall_mem_cons.mpr ⟨lw_p21, List.forall_mem_cons.mpr ⟨lw_p22, List.forall_mem_cons.mpr ⟨lw_p23, List.forall_mem_cons.mpr ⟨lw_p24, List.forall_mem_cons.mpr ⟨lw_p25, List.forall_mem_cons.mpr ⟨lw_p26, List.forall_mem_cons.mpr ⟨lw_p27, List.forall_mem_cons.mpr ⟨lw_p28, List.forall_mem_cons.mpr ⟨lw_p29, fun _ h => absurd h List.not_mem_nil⟩⟩⟩⟩⟩⟩⟩⟩⟩⟩⟩⟩⟩⟩
def lw_privs : List (MethodName × Nat) := lw_privs_1 ++ (lw_privs_2)
def lw_tbl : List Cond := k2_sels lw_privs ++ tables_1
theorem lw_privs_ok : ∀ q ∈ lw_privs, lw_okq q := by
  show ∀ q ∈ lw_privs_1 ++ (lw_privs_2), lw_okq q
  exact List.forall_mem_append.mpr ⟨lw_r1, lw_r2⟩
/-! ===== BEGIN words of one list among another's, by their places ===== -/
theorem goodIn_r {big : List Cond} (ws : List Cond) (ps : List Nat) (hp : ws = ps.filterMap (fun i => big[i]?)) (h : ws.all goodWord = true) : GoodIn big ws := by
  intro w hw
  have h1 := List.all_eq_true.mp h w hw
  rw [hp] at hw
  obtain ⟨i, -, hi⟩ := List.mem_filterMap.mp hw
  have hm : w ∈ big := by first | exact List.mem_of_getElem? hi | exact List.getElem?_mem hi
  exact ⟨hm, good_of_word h1⟩
theorem goodIn_app {big a b : List Cond} (ha : GoodIn big a) (hb : GoodIn big b) : GoodIn big (a ++ b) := fun w h => (List.mem_append.mp h).elim (ha w) (hb w)
theorem goodIn_ca {big a b : List Cond} {c : Cond} (ha : GoodIn big (c :: a)) (hb : GoodIn big b) : GoodIn big (c :: (a ++ b)) := fun w h => (List.mem_cons.mp h).elim (fun e => ha w (List.mem_cons.mpr (Or.inl e))) (fun h => (List.mem_append.mp h).elim (fun h => ha w (List.mem_cons.mpr (Or.inr h))) (hb w))
theorem goodIn_sub {big ws : List Cond} (hm : ∀ w ∈ ws, w ∈ big) (h : ws.all goodWord = true) : GoodIn big ws := fun w hw => ⟨hm w hw, good_of_word (List.all_eq_true.mp h w hw)⟩
/-! ===== END ===== -/

/-! ===== BEGIN new T[n][m]: the outer array a place, the inner ones among the pooled ===== -/
/-- f, but v at every address of l -/
def vr_up {α : Type} (f : Nat → α) (l : List Nat) (v : α) : Nat → α := fun a => if a ∈ l then v else f a
theorem vr_up_in {α : Type} {f : Nat → α} {l : List Nat} {v : α} {a : Nat} (h : a ∈ l) : vr_up f l v a = v := if_pos h
theorem vr_up_ne {α : Type} {f : Nat → α} {l : List Nat} {v : α} {a : Nat} (h : a ∉ l) : vr_up f l v a = f a := if_neg h
theorem vr_rows {L l : List Nat} {f : Nat → va_E} {e : va_E} (h : ∀ a, a ∈ l → a ∉ L) : va_pl L f ++ l.map (fun a => (a, e)) = va_pl (L ++ l) (vr_up f l e) := by
  unfold va_pl
  rw [List.map_append]
  congr 1
  · apply List.map_congr_left
    intro a ha
    rw [vr_up_ne (fun q => h a q ha)]
  · apply List.map_congr_left
    intro a ha
    rw [vr_up_in ha]
theorem vr_lay {X rows : va_W} {x : Nat × va_E} {pl : va_W} {D : va_G} {cl : List vw_C} {H : Heap} (hP : va_P D cl (((X ++ pl) ++ [x]) ++ rows) H) : va_P D cl ((X ++ [x]) ++ (pl ++ rows)) H := by
  rw [List.append_assoc (X ++ pl)] at hP
  have h := va_P.swap hP
  rw [← List.append_assoc X] at h
  have h2 := va_P.swap h
  rw [List.append_assoc (X ++ [x])] at h2
  exact h2
theorem vr_layD {X rows : va_W} {x : Nat × va_E} {pl : va_W} {A : Nat → Prop} (hD : va_D A (((X ++ pl) ++ [x]) ++ rows)) : va_D A ((X ++ [x]) ++ (pl ++ rows)) := by
  rw [List.append_assoc (X ++ pl)] at hD
  have h := va_D.swap hD
  rw [← List.append_assoc X] at h
  have h2 := va_D.swap h
  rw [List.append_assoc (X ++ [x])] at h2
  exact h2
theorem vr_outer (c : ClassId) (N h0 : Nat) : ∀ i : Nat, Jvm.Free.Multi.outerC c N h0 i = arrV c N (fun j => va_rf (if j < i then some (h0 + 1 + j) else none))
  | 0 => by
    show ({ cls := c, slots := Array.replicate N .null, vm := .none } : Cell) = _
    rw [arrV_new]
    refine congrArg (arrV c N) (funext fun j => ?_)
    simp [va_rf]
  | i + 1 => by
    show (Jvm.Free.Multi.outerC c N h0 i).setSlot i (.ref (h0 + 1 + i)) = _
    rw [vr_outer c N h0 i, arrV_store]
    refine congrArg (arrV c N) (funext fun j => ?_)
    by_cases e : j = i
    · subst e
      simp [updV, va_rf]
    · by_cases h : j < i
      · simp [updV, e, h, Nat.lt_succ_of_lt h]
      · simp [updV, e, h, show ¬ j < i + 1 by omega]
/-! ===== END ===== -/

/-! ===== BEGIN printed: names, fields, word lists, decode rows ===== -/
def RX0 : String := "HopMeet$Groups"
def TX0 : u_T := fun k => match k with
  | 0 => ("HopMeet$Groups", "slotsRun", "I", false)
  | 1 => ("HopMeet$Groups", "userCount", "I", false)
  | 2 => ("HopMeet$Groups", "least", "[I", true)
  | _ => ("HopMeet$Groups", "leaderOn", "[I", true)
def tyX0 : Nat → FieldType := fun k => match k with
  | 0 => .int
  | 1 => .int
  | 2 => .array .int
  | _ => .array .int
abbrev wsX00 : List Cond := u_ws RX0 TX0 4
theorem nmX0 : ∀ a, a < 4 → ∀ b, b < 4 → a ≠ b → (TX0 a).2.1 ≠ (TX0 b).2.1 := by decide +kernel
theorem tyX0_ok : ∀ k, k < 4 → parseFieldDescriptor (TX0 k).2.2.1 = some (tyX0 k) := by decide +kernel
abbrev cX0_init : ByteArray := prog_2_method_1_code
def yX0_init : MethodName := ⟨RX0, "<init>", "()V"⟩
abbrev cX0_begin : ByteArray := prog_2_method_2_code
def yX0_begin : MethodName := ⟨RX0, "begin", "(I)V"⟩
abbrev cX0_howMany : ByteArray := prog_2_method_3_code
def yX0_howMany : MethodName := ⟨RX0, "howMany", "()I"⟩
abbrev cX0_sizeOfGroupOf : ByteArray := prog_2_method_4_code
def yX0_sizeOfGroupOf : MethodName := ⟨RX0, "sizeOfGroupOf", "(I)I"⟩
abbrev cX0_runSlot : ByteArray := prog_2_method_5_code
def yX0_runSlot : MethodName := ⟨RX0, "runSlot", "(LHopMeet$Scene;)V"⟩
abbrev cX0_settle : ByteArray := prog_2_method_6_code
def yX0_settle : MethodName := ⟨RX0, "settle", "(II)V"⟩
abbrev cX0_join : ByteArray := prog_2_method_7_code
def yX0_join : MethodName := ⟨RX0, "join", "(II)V"⟩
def RX1 : String := "HopMeet$Past"
def TX1 : u_T := fun k => match k with
  | 0 => ("HopMeet$Past", "scenes", "[LHopMeet$Scene;", true)
  | 1 => ("HopMeet$Past", "next", "I", false)
  | _ => ("HopMeet$Past", "count", "I", false)
def tyX1 : Nat → FieldType := fun k => match k with
  | 0 => .array (.object "HopMeet$Scene")
  | 1 => .int
  | _ => .int
abbrev wsX10 : List Cond := u_ws RX1 TX1 3
theorem nmX1 : ∀ a, a < 3 → ∀ b, b < 3 → a ≠ b → (TX1 a).2.1 ≠ (TX1 b).2.1 := by decide +kernel
theorem tyX1_ok : ∀ k, k < 3 → parseFieldDescriptor (TX1 k).2.2.1 = some (tyX1 k) := by decide +kernel
abbrev cX1_init : ByteArray := prog_3_method_1_code
def yX1_init : MethodName := ⟨RX1, "<init>", "()V"⟩
abbrev cX1_forget : ByteArray := prog_3_method_2_code
def yX1_forget : MethodName := ⟨RX1, "forget", "()V"⟩
abbrev cX1_remember : ByteArray := prog_3_method_3_code
def yX1_remember : MethodName := ⟨RX1, "remember", "(LHopMeet$Scene;)V"⟩
abbrev cX1_restore : ByteArray := prog_3_method_4_code
def yX1_restore : MethodName := ⟨RX1, "restore", "(LHopMeet$Scene;)V"⟩
def RX2 : String := "HopMeet$Scene"
def TX2 : u_T := fun k => match k with
  | 0 => ("HopMeet$Scene", "channelCount", "I", false)
  | 1 => ("HopMeet$Scene", "prime", "I", false)
  | 2 => ("HopMeet$Scene", "userCount", "I", false)
  | 3 => ("HopMeet$Scene", "spellCount", "I", false)
  | 4 => ("HopMeet$Scene", "users", "[[I", true)
  | _ => ("HopMeet$Scene", "spells", "[[I", true)
def tyX2 : Nat → FieldType := fun k => match k with
  | 0 => .int
  | 1 => .int
  | 2 => .int
  | 3 => .int
  | 4 => .array (.array .int)
  | _ => .array (.array .int)
abbrev wsX20 : List Cond := u_ws RX2 TX2 6
theorem nmX2 : ∀ a, a < 6 → ∀ b, b < 6 → a ≠ b → (TX2 a).2.1 ≠ (TX2 b).2.1 := by decide +kernel
theorem tyX2_ok : ∀ k, k < 6 → parseFieldDescriptor (TX2 k).2.2.1 = some (tyX2 k) := by decide +kernel
abbrev cX2_init : ByteArray := prog_4_method_1_code
def yX2_init : MethodName := ⟨RX2, "<init>", "()V"⟩
abbrev cX2_clear : ByteArray := prog_4_method_2_code
def yX2_clear : MethodName := ⟨RX2, "clear", "(I)V"⟩
abbrev cX2_become : ByteArray := prog_4_method_3_code
def yX2_become : MethodName := ⟨RX2, "become", "(LHopMeet$Scene;)V"⟩
abbrev cX2_addUser : ByteArray := prog_4_method_4_code
def yX2_addUser : MethodName := ⟨RX2, "addUser", "(IIII)V"⟩
abbrev cX2_addSpell : ByteArray := prog_4_method_5_code
def yX2_addSpell : MethodName := ⟨RX2, "addSpell", "(IIII)V"⟩
abbrev cX2_drawLots : ByteArray := prog_4_method_6_code
def yX2_drawLots : MethodName := ⟨RX2, "drawLots", "(I)V"⟩
abbrev cX2_allChannels : ByteArray := prog_4_method_7_code
def yX2_allChannels : MethodName := ⟨RX2, "allChannels", "()I"⟩
abbrev cX2_commonChannels : ByteArray := prog_4_method_8_code
def yX2_commonChannels : MethodName := ⟨RX2, "commonChannels", "()I"⟩
abbrev cX2_clockOf : ByteArray := prog_4_method_9_code
def yX2_clockOf : MethodName := ⟨RX2, "clockOf", "(II)I"⟩
abbrev cX2_aim : ByteArray := prog_4_method_10_code
def yX2_aim : MethodName := ⟨RX2, "aim", "(II)I"⟩
abbrev cX2_aimOfJumpAndStay : ByteArray := prog_4_method_11_code
def yX2_aimOfJumpAndStay : MethodName := ⟨RX2, "aimOfJumpAndStay", "(III)I"⟩
abbrev cX2_placeByClock : ByteArray := prog_4_method_12_code
def yX2_placeByClock : MethodName := ⟨RX2, "placeByClock", "(II)I"⟩
abbrev cX2_place : ByteArray := prog_4_method_13_code
def yX2_place : MethodName := ⟨RX2, "place", "(II)I"⟩
abbrev cX2_whyNowhere : ByteArray := prog_4_method_14_code
def yX2_whyNowhere : MethodName := ⟨RX2, "whyNowhere", "(II)I"⟩
abbrev cX2_meet : ByteArray := prog_4_method_15_code
def yX2_meet : MethodName := ⟨RX2, "meet", "(III)Z"⟩
abbrev cX2_isShut : ByteArray := prog_4_method_16_code
def yX2_isShut : MethodName := ⟨RX2, "isShut", "(III)Z"⟩
abbrev cX2_holds : ByteArray := prog_4_method_17_code
def yX2_holds : MethodName := ⟨RX2, "holds", "(II)Z"⟩
abbrev cX2_memberWithNumber : ByteArray := prog_4_method_18_code
def yX2_memberWithNumber : MethodName := ⟨RX2, "memberWithNumber", "(II)I"⟩
abbrev cX2_primeAbove : ByteArray := prog_4_method_19_code
def yX2_primeAbove : MethodName := ⟨RX2, "primeAbove", "(I)I"⟩
abbrev cX2_isPrime : ByteArray := prog_4_method_20_code
def yX2_isPrime : MethodName := ⟨RX2, "isPrime", "(I)Z"⟩
abbrev cX2_nextLot : ByteArray := prog_4_method_21_code
def yX2_nextLot : MethodName := ⟨RX2, "nextLot", "(J)J"⟩
def RX3 : String := "HopMeet"
def TX3 : u_T := fun k => match k with
  | 0 => ("HopMeet", "now", "LHopMeet$Scene;", true)
  | 1 => ("HopMeet", "past", "LHopMeet$Past;", true)
  | 2 => ("HopMeet", "images", "[LHopMeet$Scene;", true)
  | 3 => ("HopMeet", "wasKept", "[Z", true)
  | 4 => ("HopMeet", "groups", "LHopMeet$Groups;", true)
  | 5 => ("HopMeet", "placesOfFirst", "[I", true)
  | 6 => ("HopMeet", "placesOfSecond", "[I", true)
  | _ => ("HopMeet", "timesOn", "[I", true)
def tyX3 : Nat → FieldType := fun k => match k with
  | 0 => .object "HopMeet$Scene"
  | 1 => .object "HopMeet$Past"
  | 2 => .array (.object "HopMeet$Scene")
  | 3 => .array .boolean
  | 4 => .object "HopMeet$Groups"
  | 5 => .array .int
  | 6 => .array .int
  | _ => .array .int
abbrev wsX30 : List Cond := u_ws RX3 TX3 8
theorem nmX3 : ∀ a, a < 8 → ∀ b, b < 8 → a ≠ b → (TX3 a).2.1 ≠ (TX3 b).2.1 := by decide +kernel
theorem tyX3_ok : ∀ k, k < 8 → parseFieldDescriptor (TX3 k).2.2.1 = some (tyX3 k) := by decide +kernel
abbrev cX3_init : ByteArray := prog_1_method_1_code
def yX3_init : MethodName := ⟨RX3, "<init>", "()V"⟩
abbrev cX3_channels : ByteArray := prog_1_method_2_code
def yX3_channels : MethodName := ⟨RX3, "channels", "(I)I"⟩
abbrev cX3_user : ByteArray := prog_1_method_3_code
def yX3_user : MethodName := ⟨RX3, "user", "(IIII)I"⟩
abbrev cX3_open : ByteArray := prog_1_method_4_code
def yX3_open : MethodName := ⟨RX3, "open", "(II)I"⟩
abbrev cX3_set : ByteArray := prog_1_method_5_code
def yX3_set : MethodName := ⟨RX3, "set", "(III)I"⟩
abbrev cX3_shut : ByteArray := prog_1_method_6_code
def yX3_shut : MethodName := ⟨RX3, "shut", "(IIII)I"⟩
abbrev cX3_drift : ByteArray := prog_1_method_7_code
def yX3_drift : MethodName := ⟨RX3, "drift", "(I)I"⟩
abbrev cX3_undo : ByteArray := prog_1_method_8_code
def yX3_undo : MethodName := ⟨RX3, "undo", "()I"⟩
abbrev cX3_told : ByteArray := prog_1_method_9_code
def yX3_told : MethodName := ⟨RX3, "told", "(I)I"⟩
abbrev cX3_userOf : ByteArray := prog_1_method_10_code
def yX3_userOf : MethodName := ⟨RX3, "userOf", "(II)I"⟩
abbrev cX3_pointsAt : ByteArray := prog_1_method_11_code
def yX3_pointsAt : MethodName := ⟨RX3, "pointsAt", "(II)I"⟩
abbrev cX3_on : ByteArray := prog_1_method_12_code
def yX3_on : MethodName := ⟨RX3, "on", "(II)I"⟩
abbrev cX3_why : ByteArray := prog_1_method_13_code
def yX3_why : MethodName := ⟨RX3, "why", "(II)I"⟩
abbrev cX3_first : ByteArray := prog_1_method_14_code
def yX3_first : MethodName := ⟨RX3, "first", "(II)I"⟩
abbrev cX3_worst : ByteArray := prog_1_method_15_code
def yX3_worst : MethodName := ⟨RX3, "worst", "(III)I"⟩
abbrev cX3_bound : ByteArray := prog_1_method_16_code
def yX3_bound : MethodName := ⟨RX3, "bound", "(IIII)I"⟩
abbrev cX3_together : ByteArray := prog_1_method_17_code
def yX3_together : MethodName := ⟨RX3, "together", "(III)I"⟩
abbrev cX3_even : ByteArray := prog_1_method_18_code
def yX3_even : MethodName := ⟨RX3, "even", "(II)I"⟩
abbrev cX3_run : ByteArray := prog_1_method_19_code
def yX3_run : MethodName := ⟨RX3, "run", "(I)I"⟩
abbrev cX3_merge : ByteArray := prog_1_method_20_code
def yX3_merge : MethodName := ⟨RX3, "merge", "()I"⟩
abbrev cX3_part : ByteArray := prog_1_method_21_code
def yX3_part : MethodName := ⟨RX3, "part", "()I"⟩
abbrev cX3_keep : ByteArray := prog_1_method_22_code
def yX3_keep : MethodName := ⟨RX3, "keep", "(I)I"⟩
abbrev cX3_goBack : ByteArray := prog_1_method_23_code
def yX3_goBack : MethodName := ⟨RX3, "goBack", "(I)I"⟩
abbrev cX3_isUser : ByteArray := prog_1_method_24_code
def yX3_isUser : MethodName := ⟨RX3, "isUser", "(I)Z"⟩
abbrev cX3_areTwoUsers : ByteArray := prog_1_method_25_code
def yX3_areTwoUsers : MethodName := ⟨RX3, "areTwoUsers", "(II)Z"⟩
abbrev cX3_isImage : ByteArray := prog_1_method_26_code
def yX3_isImage : MethodName := ⟨RX3, "isImage", "(I)Z"⟩
abbrev cX3_isSlotAsked : ByteArray := prog_1_method_27_code
def yX3_isSlotAsked : MethodName := ⟨RX3, "isSlotAsked", "(I)Z"⟩
abbrev cX3_isShift : ByteArray := prog_1_method_28_code
def yX3_isShift : MethodName := ⟨RX3, "isShift", "(I)Z"⟩
abbrev cX3_mayHave : ByteArray := prog_1_method_29_code
def yX3_mayHave : MethodName := ⟨RX3, "mayHave", "(II)Z"⟩
abbrev cX3_change : ByteArray := prog_1_method_30_code
def yX3_change : MethodName := ⟨RX3, "change", "(III)I"⟩
abbrev cX3_worstOfShifts : ByteArray := prog_1_method_31_code
def yX3_worstOfShifts : MethodName := ⟨RX3, "worstOfShifts", "(III)I"⟩
abbrev cX3_slotsToMeet : ByteArray := prog_1_method_32_code
def yX3_slotsToMeet : MethodName := ⟨RX3, "slotsToMeet", "(I)I"⟩
abbrev cX3_countTimesOn : ByteArray := prog_1_method_33_code
def yX3_countTimesOn : MethodName := ⟨RX3, "countTimesOn", "(II)V"⟩
def RX4 : String := "HopMeetModel"
def TX4 : u_T := fun k => match k with
  | 0 => ("HopMeetModel", "now", "[I", true)
  | 1 => ("HopMeetModel", "backs", "I", false)
  | 2 => ("HopMeetModel", "back", "[I", true)
  | 3 => ("HopMeetModel", "image", "[I", true)
  | 4 => ("HopMeetModel", "isKept", "[Z", true)
  | 5 => ("HopMeetModel", "slots", "I", false)
  | 6 => ("HopMeetModel", "prime", "I", false)
  | 7 => ("HopMeetModel", "group", "[I", true)
  | 8 => ("HopMeetModel", "many", "[I", true)
  | _ => ("HopMeetModel", "lots", "J", false)
def tyX4 : Nat → FieldType := fun k => match k with
  | 0 => .array .int
  | 1 => .int
  | 2 => .array .int
  | 3 => .array .int
  | 4 => .array .boolean
  | 5 => .int
  | 6 => .int
  | 7 => .array .int
  | 8 => .array .int
  | _ => .long
abbrev wsX40 : List Cond := u_ws RX4 TX4 10
theorem nmX4 : ∀ a, a < 10 → ∀ b, b < 10 → a ≠ b → (TX4 a).2.1 ≠ (TX4 b).2.1 := by decide +kernel
theorem tyX4_ok : ∀ k, k < 10 → parseFieldDescriptor (TX4 k).2.2.1 = some (tyX4 k) := by decide +kernel
abbrev cX4_init : ByteArray := prog_6_method_1_code
def yX4_init : MethodName := ⟨RX4, "<init>", "()V"⟩
abbrev cX4_in : ByteArray := prog_6_method_2_code
def yX4_in : MethodName := ⟨RX4, "in", "(III)Z"⟩
abbrev cX4_bring : ByteArray := prog_6_method_3_code
def yX4_bring : MethodName := ⟨RX4, "bring", "([II[III)V"⟩
abbrev cX4_all : ByteArray := prog_6_method_4_code
def yX4_all : MethodName := ⟨RX4, "all", "()I"⟩
abbrev cX4_layPrime : ByteArray := prog_6_method_5_code
def yX4_layPrime : MethodName := ⟨RX4, "layPrime", "()V"⟩
abbrev cX4_isPrime : ByteArray := prog_6_method_6_code
def yX4_isPrime : MethodName := ⟨RX4, "isPrime", "(I)Z"⟩
abbrev cX4_isUser : ByteArray := prog_6_method_7_code
def yX4_isUser : MethodName := ⟨RX4, "isUser", "(I)Z"⟩
abbrev cX4_areTwo : ByteArray := prog_6_method_8_code
def yX4_areTwo : MethodName := ⟨RX4, "areTwo", "(II)Z"⟩
abbrev cX4_of : ByteArray := prog_6_method_9_code
def yX4_of : MethodName := ⟨RX4, "of", "(II)I"⟩
abbrev cX4_points : ByteArray := prog_6_method_10_code
def yX4_points : MethodName := ⟨RX4, "points", "(II)I"⟩
abbrev cX4_ones : ByteArray := prog_6_method_11_code
def yX4_ones : MethodName := ⟨RX4, "ones", "(I)I"⟩
abbrev cX4_lands : ByteArray := prog_6_method_12_code
def yX4_lands : MethodName := ⟨RX4, "lands", "(II)I"⟩
abbrev cX4_isShut : ByteArray := prog_6_method_13_code
def yX4_isShut : MethodName := ⟨RX4, "isShut", "(III)Z"⟩
abbrev cX4_whyNot : ByteArray := prog_6_method_14_code
def yX4_whyNot : MethodName := ⟨RX4, "whyNot", "(II)I"⟩
abbrev cX4_place : ByteArray := prog_6_method_15_code
def yX4_place : MethodName := ⟨RX4, "place", "(II)I"⟩
abbrev cX4_isMet : ByteArray := prog_6_method_16_code
def yX4_isMet : MethodName := ⟨RX4, "isMet", "(III)Z"⟩
abbrev cX4_anew : ByteArray := prog_6_method_17_code
def yX4_anew : MethodName := ⟨RX4, "anew", "()V"⟩
abbrev cX4_note : ByteArray := prog_6_method_18_code
def yX4_note : MethodName := ⟨RX4, "note", "()V"⟩
abbrev cX4_channels : ByteArray := prog_6_method_19_code
def yX4_channels : MethodName := ⟨RX4, "channels", "(I)I"⟩
abbrev cX4_isBound : ByteArray := prog_6_method_20_code
def yX4_isBound : MethodName := ⟨RX4, "isBound", "(II)Z"⟩
abbrev cX4_user : ByteArray := prog_6_method_21_code
def yX4_user : MethodName := ⟨RX4, "user", "(IIII)I"⟩
abbrev cX4_becomes : ByteArray := prog_6_method_22_code
def yX4_becomes : MethodName := ⟨RX4, "becomes", "(III)I"⟩
abbrev cX4_open : ByteArray := prog_6_method_23_code
def yX4_open : MethodName := ⟨RX4, "open", "(II)I"⟩
abbrev cX4_set : ByteArray := prog_6_method_24_code
def yX4_set : MethodName := ⟨RX4, "set", "(III)I"⟩
abbrev cX4_shut : ByteArray := prog_6_method_25_code
def yX4_shut : MethodName := ⟨RX4, "shut", "(IIII)I"⟩
abbrev cX4_drawn : ByteArray := prog_6_method_26_code
def yX4_drawn : MethodName := ⟨RX4, "drawn", "(I)I"⟩
abbrev cX4_drift : ByteArray := prog_6_method_27_code
def yX4_drift : MethodName := ⟨RX4, "drift", "(I)I"⟩
abbrev cX4_undo : ByteArray := prog_6_method_28_code
def yX4_undo : MethodName := ⟨RX4, "undo", "()I"⟩
abbrev cX4_common : ByteArray := prog_6_method_29_code
def yX4_common : MethodName := ⟨RX4, "common", "()I"⟩
abbrev cX4_groups : ByteArray := prog_6_method_30_code
def yX4_groups : MethodName := ⟨RX4, "groups", "()I"⟩
abbrev cX4_told : ByteArray := prog_6_method_31_code
def yX4_told : MethodName := ⟨RX4, "told", "(I)I"⟩
abbrev cX4_userOf : ByteArray := prog_6_method_32_code
def yX4_userOf : MethodName := ⟨RX4, "userOf", "(II)I"⟩
abbrev cX4_pointsAt : ByteArray := prog_6_method_33_code
def yX4_pointsAt : MethodName := ⟨RX4, "pointsAt", "(II)I"⟩
abbrev cX4_on : ByteArray := prog_6_method_34_code
def yX4_on : MethodName := ⟨RX4, "on", "(II)I"⟩
abbrev cX4_why : ByteArray := prog_6_method_35_code
def yX4_why : MethodName := ⟨RX4, "why", "(II)I"⟩
abbrev cX4_first : ByteArray := prog_6_method_36_code
def yX4_first : MethodName := ⟨RX4, "first", "(II)I"⟩
abbrev cX4_worstOf : ByteArray := prog_6_method_37_code
def yX4_worstOf : MethodName := ⟨RX4, "worstOf", "(III)I"⟩
abbrev cX4_worst : ByteArray := prog_6_method_38_code
def yX4_worst : MethodName := ⟨RX4, "worst", "(III)I"⟩
abbrev cX4_bound : ByteArray := prog_6_method_39_code
def yX4_bound : MethodName := ⟨RX4, "bound", "(IIII)I"⟩
abbrev cX4_together : ByteArray := prog_6_method_40_code
def yX4_together : MethodName := ⟨RX4, "together", "(III)I"⟩
abbrev cX4_even : ByteArray := prog_6_method_41_code
def yX4_even : MethodName := ⟨RX4, "even", "(II)I"⟩
abbrev cX4_slot : ByteArray := prog_6_method_42_code
def yX4_slot : MethodName := ⟨RX4, "slot", "()V"⟩
abbrev cX4_join : ByteArray := prog_6_method_43_code
def yX4_join : MethodName := ⟨RX4, "join", "(II)V"⟩
abbrev cX4_run : ByteArray := prog_6_method_44_code
def yX4_run : MethodName := ⟨RX4, "run", "(I)I"⟩
abbrev cX4_merge : ByteArray := prog_6_method_45_code
def yX4_merge : MethodName := ⟨RX4, "merge", "()I"⟩
abbrev cX4_part : ByteArray := prog_6_method_46_code
def yX4_part : MethodName := ⟨RX4, "part", "()I"⟩
abbrev cX4_keep : ByteArray := prog_6_method_47_code
def yX4_keep : MethodName := ⟨RX4, "keep", "(I)I"⟩
abbrev cX4_goBack : ByteArray := prog_6_method_48_code
def yX4_goBack : MethodName := ⟨RX4, "goBack", "(I)I"⟩
def RJ6 : String := "java/lang/Integer"
def TJ6 : u_T := fun k => match k with
  | _ => ("", "", "", false)
def tyJ6 : Nat → FieldType := fun k => match k with
  | _ => .int
abbrev wsJ60 : List Cond := u_ws RJ6 TJ6 0
theorem nmJ6 : ∀ a, a < 0 → ∀ b, b < 0 → a ≠ b → (TJ6 a).2.1 ≠ (TJ6 b).2.1 := by decide +kernel
theorem tyJ6_ok : ∀ k, k < 0 → parseFieldDescriptor (TJ6 k).2.2.1 = some (tyJ6 k) := by decide +kernel
abbrev cJ6_bitCount_0f7a4 : ByteArray := prog_7_method_49_code
def yJ6_bitCount_0f7a4 : MethodName := ⟨RJ6, "bitCount", "(I)I"⟩
def RJ9 : String := "java/lang/Math"
def TJ9 : u_T := fun k => match k with
  | _ => ("", "", "", false)
def tyJ9 : Nat → FieldType := fun k => match k with
  | _ => .int
abbrev wsJ90 : List Cond := u_ws RJ9 TJ9 0
theorem nmJ9 : ∀ a, a < 0 → ∀ b, b < 0 → a ≠ b → (TJ9 a).2.1 ≠ (TJ9 b).2.1 := by decide +kernel
theorem tyJ9_ok : ∀ k, k < 0 → parseFieldDescriptor (TJ9 k).2.2.1 = some (tyJ9 k) := by decide +kernel
abbrev cJ9_max_7cf53 : ByteArray := prog_8_method_65_code
def yJ9_max_7cf53 : MethodName := ⟨RJ9, "max", "(II)I"⟩
abbrev cJ9_min_7cf53 : ByteArray := prog_8_method_69_code
def yJ9_min_7cf53 : MethodName := ⟨RJ9, "min", "(II)I"⟩
def RJ10 : String := "java/lang/System"
def TJ10 : u_T := fun k => match k with
  | _ => ("", "", "", false)
def tyJ10 : Nat → FieldType := fun k => match k with
  | _ => .int
abbrev wsJ100 : List Cond := u_ws RJ10 TJ10 0
theorem nmJ10 : ∀ a, a < 0 → ∀ b, b < 0 → a ≠ b → (TJ10 a).2.1 ≠ (TJ10 b).2.1 := by decide +kernel
theorem tyJ10_ok : ∀ k, k < 0 → parseFieldDescriptor (TJ10 k).2.2.1 = some (tyJ10 k) := by decide +kernel
def RL : String := "HopMeetLaw"
abbrev cL_law : ByteArray := code
def yL_law : MethodName := ⟨RL, "law", "([I)Z"⟩
def wsX0_init : List Cond := .code yX0_init cX0_init 1 none :: ([.methodLink RX0 3 objectInit, .instanceMethod objectInit, .code objectInit ⟨#[0xb1]⟩ 1 none, .arrayClass .int, .fieldLink RX0 9 "HopMeet$Groups" "least" "[I", .fieldLink RX0 15 "HopMeet$Groups" "leaderOn" "[I"] ++ wsX00)
def wsX0_begin : List Cond := .code yX0_begin cX0_begin 3 none :: ([.fieldLink RX0 18 "HopMeet$Groups" "slotsRun" "I", .fieldLink RX0 22 "HopMeet$Groups" "userCount" "I", .fieldLink RX0 9 "HopMeet$Groups" "least" "[I"] ++ wsX00)
def wsX0_howMany : List Cond := .code yX0_howMany cX0_howMany 3 (some .int) :: ([.fieldLink RX0 22 "HopMeet$Groups" "userCount" "I", .fieldLink RX0 9 "HopMeet$Groups" "least" "[I"] ++ wsX00)
def wsX0_sizeOfGroupOf : List Cond := .code yX0_sizeOfGroupOf cX0_sizeOfGroupOf 4 (some .int) :: ([.fieldLink RX0 22 "HopMeet$Groups" "userCount" "I", .fieldLink RX0 9 "HopMeet$Groups" "least" "[I"] ++ wsX00)
def wsX2_clockOf : List Cond := .code yX2_clockOf cX2_clockOf 3 (some .int) :: ([.fieldLink RX2 11 "HopMeet$Scene" "users" "[[I"] ++ wsX20)
def wsX2_aimOfJumpAndStay : List Cond := .code yX2_aimOfJumpAndStay cX2_aimOfJumpAndStay 7 (some .int) :: ([.fieldLink RX2 31 "HopMeet$Scene" "prime" "I", .fieldLink RX2 23 "HopMeet$Scene" "channelCount" "I"] ++ wsX20)
def wsX2_aim : List Cond := .code yX2_aim cX2_aim 6 (some .int) :: ([.fieldLink RX2 11 "HopMeet$Scene" "users" "[[I", .fieldLink RX2 23 "HopMeet$Scene" "channelCount" "I", .fieldLink RX2 31 "HopMeet$Scene" "prime" "I", .methodLink RX2 58 yX2_aimOfJumpAndStay, .instanceMethod yX2_aimOfJumpAndStay, .selects RX2 yX2_aimOfJumpAndStay yX2_aimOfJumpAndStay, .initialized RX2, .code yX2_aimOfJumpAndStay cX2_aimOfJumpAndStay 7 (some .int)] ++ wsX20)
def wsX2_holds : List Cond := .code yX2_holds cX2_holds 2 (some .boolean) :: ([])
def wsJ6_bitCount_0f7a4 : List Cond := .code yJ6_bitCount_0f7a4 cJ6_bitCount_0f7a4 1 (some .int) :: ([.constant RJ6 265 (1431655765), .constant RJ6 266 (858993459), .constant RJ6 267 (252645135)])
def wsX2_memberWithNumber : List Cond := .code yX2_memberWithNumber cX2_memberWithNumber 4 (some .int) :: ([.methodLink RX2 66 yX2_holds, .static yX2_holds, .initialized RX2, .code yX2_holds cX2_holds 2 (some .boolean)])
def wsX2_placeByClock_r1 : List Cond := [Cond.fieldLink RX2 11 "HopMeet$Scene" "users" "[[I", Cond.methodLink RX2 62 yX2_aim, Cond.instanceMethod yX2_aim, Cond.selects RX2 yX2_aim yX2_aim, Cond.initialized RX2, Cond.code yX2_aim cX2_aim 6 (some .int), Cond.fieldLink RX2 23 "HopMeet$Scene" "channelCount" "I", Cond.fieldLink RX2 31 "HopMeet$Scene" "prime" "I", Cond.methodLink RX2 58 yX2_aimOfJumpAndStay, Cond.instanceMethod yX2_aimOfJumpAndStay, Cond.selects RX2 yX2_aimOfJumpAndStay yX2_aimOfJumpAndStay, Cond.code yX2_aimOfJumpAndStay cX2_aimOfJumpAndStay 7 (some .int), Cond.methodLink RX2 66 yX2_holds, Cond.static yX2_holds, Cond.code yX2_holds cX2_holds 2 (some .boolean), Cond.methodLink RX2 70 yJ6_bitCount_0f7a4, Cond.static yJ6_bitCount_0f7a4, Cond.initialized RJ6, Cond.code yJ6_bitCount_0f7a4 cJ6_bitCount_0f7a4 1 (some .int), Cond.constant RJ6 265 (1431655765), Cond.constant RJ6 266 (858993459), Cond.constant RJ6 267 (252645135), Cond.methodLink RX2 75 yX2_memberWithNumber, Cond.static yX2_memberWithNumber]
def wsX2_placeByClock_r2 : List Cond := [Cond.code yX2_memberWithNumber cX2_memberWithNumber 4 (some .int)]
def wsX2_placeByClock : List Cond := .code yX2_placeByClock cX2_placeByClock 5 (some .int) :: ((wsX2_placeByClock_r1 ++ wsX2_placeByClock_r2) ++ wsX20)
def wsX2_isShut : List Cond := .code yX2_isShut cX2_isShut 8 (some .boolean) :: ([.fieldLink RX2 37 "HopMeet$Scene" "spellCount" "I", .fieldLink RX2 16 "HopMeet$Scene" "spells" "[[I"] ++ wsX20)
def wsX2_place_r1 : List Cond := [Cond.methodLink RX2 78 yX2_clockOf, Cond.instanceMethod yX2_clockOf, Cond.selects RX2 yX2_clockOf yX2_clockOf, Cond.initialized RX2, Cond.code yX2_clockOf cX2_clockOf 3 (some .int), Cond.fieldLink RX2 11 "HopMeet$Scene" "users" "[[I", Cond.methodLink RX2 81 yX2_placeByClock, Cond.instanceMethod yX2_placeByClock, Cond.selects RX2 yX2_placeByClock yX2_placeByClock, Cond.code yX2_placeByClock cX2_placeByClock 5 (some .int), Cond.methodLink RX2 62 yX2_aim, Cond.instanceMethod yX2_aim, Cond.selects RX2 yX2_aim yX2_aim, Cond.code yX2_aim cX2_aim 6 (some .int), Cond.fieldLink RX2 23 "HopMeet$Scene" "channelCount" "I", Cond.fieldLink RX2 31 "HopMeet$Scene" "prime" "I", Cond.methodLink RX2 58 yX2_aimOfJumpAndStay, Cond.instanceMethod yX2_aimOfJumpAndStay, Cond.selects RX2 yX2_aimOfJumpAndStay yX2_aimOfJumpAndStay, Cond.code yX2_aimOfJumpAndStay cX2_aimOfJumpAndStay 7 (some .int), Cond.methodLink RX2 66 yX2_holds, Cond.static yX2_holds, Cond.code yX2_holds cX2_holds 2 (some .boolean), Cond.methodLink RX2 70 yJ6_bitCount_0f7a4]
def wsX2_place_r2 : List Cond := [Cond.static yJ6_bitCount_0f7a4, Cond.initialized RJ6, Cond.code yJ6_bitCount_0f7a4 cJ6_bitCount_0f7a4 1 (some .int), Cond.constant RJ6 265 (1431655765), Cond.constant RJ6 266 (858993459), Cond.constant RJ6 267 (252645135), Cond.methodLink RX2 75 yX2_memberWithNumber, Cond.static yX2_memberWithNumber, Cond.code yX2_memberWithNumber cX2_memberWithNumber 4 (some .int), Cond.methodLink RX2 84 yX2_isShut, Cond.instanceMethod yX2_isShut, Cond.selects RX2 yX2_isShut yX2_isShut, Cond.code yX2_isShut cX2_isShut 8 (some .boolean), Cond.fieldLink RX2 37 "HopMeet$Scene" "spellCount" "I", Cond.fieldLink RX2 16 "HopMeet$Scene" "spells" "[[I"]
def wsX2_place : List Cond := .code yX2_place cX2_place 5 (some .int) :: ((wsX2_place_r1 ++ wsX2_place_r2) ++ wsX20)
def wsX0_join : List Cond := .code yX0_join cX0_join 4 none :: ([.fieldLink RX0 22 "HopMeet$Groups" "userCount" "I", .fieldLink RX0 9 "HopMeet$Groups" "least" "[I"] ++ wsX00)
def wsX0_settle : List Cond := .code yX0_settle cX0_settle 3 none :: ([.fieldLink RX0 15 "HopMeet$Groups" "leaderOn" "[I", .methodLink RX0 35 yX0_join, .instanceMethod yX0_join, .selects RX0 yX0_join yX0_join, .initialized RX0, .code yX0_join cX0_join 4 none, .fieldLink RX0 22 "HopMeet$Groups" "userCount" "I", .fieldLink RX0 9 "HopMeet$Groups" "least" "[I"] ++ wsX00)
def wsX0_runSlot_r1 : List Cond := [Cond.fieldLink RX0 15 "HopMeet$Groups" "leaderOn" "[I", Cond.fieldLink RX0 22 "HopMeet$Groups" "userCount" "I", Cond.fieldLink RX0 9 "HopMeet$Groups" "least" "[I", Cond.fieldLink RX0 18 "HopMeet$Groups" "slotsRun" "I", Cond.methodLink RX0 25 yX2_place, Cond.instanceMethod yX2_place, Cond.selects RX2 yX2_place yX2_place, Cond.initialized RX2, Cond.code yX2_place cX2_place 5 (some .int), Cond.methodLink RX2 78 yX2_clockOf, Cond.instanceMethod yX2_clockOf, Cond.selects RX2 yX2_clockOf yX2_clockOf, Cond.code yX2_clockOf cX2_clockOf 3 (some .int), Cond.fieldLink RX2 11 "HopMeet$Scene" "users" "[[I", Cond.methodLink RX2 81 yX2_placeByClock, Cond.instanceMethod yX2_placeByClock, Cond.selects RX2 yX2_placeByClock yX2_placeByClock, Cond.code yX2_placeByClock cX2_placeByClock 5 (some .int), Cond.methodLink RX2 62 yX2_aim, Cond.instanceMethod yX2_aim, Cond.selects RX2 yX2_aim yX2_aim, Cond.code yX2_aim cX2_aim 6 (some .int), Cond.fieldLink RX2 23 "HopMeet$Scene" "channelCount" "I", Cond.fieldLink RX2 31 "HopMeet$Scene" "prime" "I"]
def wsX0_runSlot_r2 : List Cond := [Cond.methodLink RX2 58 yX2_aimOfJumpAndStay, Cond.instanceMethod yX2_aimOfJumpAndStay, Cond.selects RX2 yX2_aimOfJumpAndStay yX2_aimOfJumpAndStay, Cond.code yX2_aimOfJumpAndStay cX2_aimOfJumpAndStay 7 (some .int), Cond.methodLink RX2 66 yX2_holds, Cond.static yX2_holds, Cond.code yX2_holds cX2_holds 2 (some .boolean), Cond.methodLink RX2 70 yJ6_bitCount_0f7a4, Cond.static yJ6_bitCount_0f7a4, Cond.initialized RJ6, Cond.code yJ6_bitCount_0f7a4 cJ6_bitCount_0f7a4 1 (some .int), Cond.constant RJ6 265 (1431655765), Cond.constant RJ6 266 (858993459), Cond.constant RJ6 267 (252645135), Cond.methodLink RX2 75 yX2_memberWithNumber, Cond.static yX2_memberWithNumber, Cond.code yX2_memberWithNumber cX2_memberWithNumber 4 (some .int), Cond.methodLink RX2 84 yX2_isShut, Cond.instanceMethod yX2_isShut, Cond.selects RX2 yX2_isShut yX2_isShut, Cond.code yX2_isShut cX2_isShut 8 (some .boolean), Cond.fieldLink RX2 37 "HopMeet$Scene" "spellCount" "I", Cond.fieldLink RX2 16 "HopMeet$Scene" "spells" "[[I", Cond.methodLink RX0 31 yX0_settle]
def wsX0_runSlot_r3 : List Cond := [Cond.instanceMethod yX0_settle, Cond.selects RX0 yX0_settle yX0_settle, Cond.initialized RX0, Cond.code yX0_settle cX0_settle 3 none, Cond.methodLink RX0 35 yX0_join, Cond.instanceMethod yX0_join, Cond.selects RX0 yX0_join yX0_join, Cond.code yX0_join cX0_join 4 none]
def wsX0_runSlot : List Cond := .code yX0_runSlot cX0_runSlot 3 none :: ((wsX0_runSlot_r1 ++ (wsX0_runSlot_r2 ++ wsX0_runSlot_r3)) ++ wsX00 ++ wsX20)
def wsX2_isPrime : List Cond := .code yX2_isPrime cX2_isPrime 2 (some .boolean) :: ([])
def wsX2_primeAbove : List Cond := .code yX2_primeAbove cX2_primeAbove 2 (some .int) :: ([.methodLink RX2 91 yX2_isPrime, .static yX2_isPrime, .initialized RX2, .code yX2_isPrime cX2_isPrime 2 (some .boolean)])
def wsX2_clear : List Cond := .code yX2_clear cX2_clear 2 none :: ([.fieldLink RX2 23 "HopMeet$Scene" "channelCount" "I", .fieldLink RX2 31 "HopMeet$Scene" "prime" "I", .fieldLink RX2 34 "HopMeet$Scene" "userCount" "I", .fieldLink RX2 37 "HopMeet$Scene" "spellCount" "I", .methodLink RX2 27 yX2_primeAbove, .static yX2_primeAbove, .initialized RX2, .code yX2_primeAbove cX2_primeAbove 2 (some .int), .methodLink RX2 91 yX2_isPrime, .static yX2_isPrime, .code yX2_isPrime cX2_isPrime 2 (some .boolean)] ++ wsX20)
def wsX2_init : List Cond := .code yX2_init cX2_init 1 none :: ([.methodLink RX2 3 objectInit, .instanceMethod objectInit, .code objectInit ⟨#[0xb1]⟩ 1 none, .classLink RX2 9 "[[I", .arrayClass .int, .fieldLink RX2 11 "HopMeet$Scene" "users" "[[I", .fieldLink RX2 16 "HopMeet$Scene" "spells" "[[I", .methodLink RX2 19 yX2_clear, .instanceMethod yX2_clear, .selects RX2 yX2_clear yX2_clear, .initialized RX2, .code yX2_clear cX2_clear 2 none, .fieldLink RX2 23 "HopMeet$Scene" "channelCount" "I", .fieldLink RX2 31 "HopMeet$Scene" "prime" "I", .fieldLink RX2 34 "HopMeet$Scene" "userCount" "I", .fieldLink RX2 37 "HopMeet$Scene" "spellCount" "I", .methodLink RX2 27 yX2_primeAbove, .static yX2_primeAbove, .code yX2_primeAbove cX2_primeAbove 2 (some .int), .methodLink RX2 91 yX2_isPrime, .static yX2_isPrime, .code yX2_isPrime cX2_isPrime 2 (some .boolean)] ++ wsX20)
def wsX1_init_r1 : List Cond := [Cond.methodLink RX1 3 objectInit, Cond.instanceMethod objectInit, Cond.code objectInit ⟨#[0xb1]⟩ 1 none, Cond.classLink RX1 9 RX2, Cond.fieldLink RX1 11 "HopMeet$Past" "scenes" "[LHopMeet$Scene;", Cond.instantiable RX2 6, Cond.initialized RX2, Cond.methodLink RX1 17 yX2_init, Cond.instanceMethod yX2_init, Cond.code yX2_init cX2_init 1 none, Cond.methodLink RX2 3 objectInit, Cond.classLink RX2 9 "[[I", Cond.arrayClass .int, Cond.fieldLink RX2 11 "HopMeet$Scene" "users" "[[I", Cond.fieldLink RX2 16 "HopMeet$Scene" "spells" "[[I", Cond.methodLink RX2 19 yX2_clear, Cond.instanceMethod yX2_clear, Cond.selects RX2 yX2_clear yX2_clear, Cond.code yX2_clear cX2_clear 2 none, Cond.fieldLink RX2 23 "HopMeet$Scene" "channelCount" "I", Cond.fieldLink RX2 31 "HopMeet$Scene" "prime" "I", Cond.fieldLink RX2 34 "HopMeet$Scene" "userCount" "I", Cond.fieldLink RX2 37 "HopMeet$Scene" "spellCount" "I", Cond.methodLink RX2 27 yX2_primeAbove]
def wsX1_init_r2 : List Cond := [Cond.static yX2_primeAbove, Cond.code yX2_primeAbove cX2_primeAbove 2 (some .int), Cond.methodLink RX2 91 yX2_isPrime, Cond.static yX2_isPrime, Cond.code yX2_isPrime cX2_isPrime 2 (some .boolean)]
def wsX1_init : List Cond := .code yX1_init cX1_init 2 none :: ((wsX1_init_r1 ++ wsX1_init_r2) ++ wsX10 ++ wsX20)
def wsX1_forget : List Cond := .code yX1_forget cX1_forget 1 none :: ([.fieldLink RX1 18 "HopMeet$Past" "next" "I", .fieldLink RX1 22 "HopMeet$Past" "count" "I"] ++ wsX10)
def wsX2_become : List Cond := .code yX2_become cX2_become 3 none :: ([.fieldLink RX2 23 "HopMeet$Scene" "channelCount" "I", .fieldLink RX2 31 "HopMeet$Scene" "prime" "I", .fieldLink RX2 34 "HopMeet$Scene" "userCount" "I", .fieldLink RX2 37 "HopMeet$Scene" "spellCount" "I", .fieldLink RX2 11 "HopMeet$Scene" "users" "[[I", .methodLink RX2 40 arraycopyName, .native arraycopyName, .static arraycopyName, .initialized "java/lang/System", .fieldLink RX2 16 "HopMeet$Scene" "spells" "[[I"] ++ wsX20)
def wsX1_remember : List Cond := .code yX1_remember cX1_remember 2 none :: ([.fieldLink RX1 11 "HopMeet$Past" "scenes" "[LHopMeet$Scene;", .fieldLink RX1 18 "HopMeet$Past" "next" "I", .fieldLink RX1 22 "HopMeet$Past" "count" "I", .methodLink RX1 29 Lib.Math.min.name, .static Lib.Math.min.name, .initialized "java/lang/Math", .code Lib.Math.min.name Lib.Math.min.code 2 (some .int), .methodLink RX1 25 yX2_become, .instanceMethod yX2_become, .selects RX2 yX2_become yX2_become, .initialized RX2, .code yX2_become cX2_become 3 none, .fieldLink RX2 23 "HopMeet$Scene" "channelCount" "I", .fieldLink RX2 31 "HopMeet$Scene" "prime" "I", .fieldLink RX2 34 "HopMeet$Scene" "userCount" "I", .fieldLink RX2 37 "HopMeet$Scene" "spellCount" "I", .fieldLink RX2 11 "HopMeet$Scene" "users" "[[I", .methodLink RX2 40 arraycopyName, .native arraycopyName, .static arraycopyName, .initialized "java/lang/System", .fieldLink RX2 16 "HopMeet$Scene" "spells" "[[I"] ++ wsX10 ++ wsX20)
def wsX1_restore : List Cond := .code yX1_restore cX1_restore 2 none :: ([.fieldLink RX1 18 "HopMeet$Past" "next" "I", .fieldLink RX1 11 "HopMeet$Past" "scenes" "[LHopMeet$Scene;", .fieldLink RX1 22 "HopMeet$Past" "count" "I", .methodLink RX1 25 yX2_become, .instanceMethod yX2_become, .selects RX2 yX2_become yX2_become, .initialized RX2, .code yX2_become cX2_become 3 none, .fieldLink RX2 23 "HopMeet$Scene" "channelCount" "I", .fieldLink RX2 31 "HopMeet$Scene" "prime" "I", .fieldLink RX2 34 "HopMeet$Scene" "userCount" "I", .fieldLink RX2 37 "HopMeet$Scene" "spellCount" "I", .fieldLink RX2 11 "HopMeet$Scene" "users" "[[I", .methodLink RX2 40 arraycopyName, .native arraycopyName, .static arraycopyName, .initialized "java/lang/System", .fieldLink RX2 16 "HopMeet$Scene" "spells" "[[I"] ++ wsX10 ++ wsX20)
def wsX2_allChannels : List Cond := .code yX2_allChannels cX2_allChannels 1 (some .int) :: ([.fieldLink RX2 23 "HopMeet$Scene" "channelCount" "I"] ++ wsX20)
def wsX2_addUser : List Cond := .code yX2_addUser cX2_addUser 6 none :: ([.fieldLink RX2 11 "HopMeet$Scene" "users" "[[I", .fieldLink RX2 34 "HopMeet$Scene" "userCount" "I", .methodLink RX2 46 yX2_allChannels, .instanceMethod yX2_allChannels, .selects RX2 yX2_allChannels yX2_allChannels, .initialized RX2, .code yX2_allChannels cX2_allChannels 1 (some .int), .fieldLink RX2 23 "HopMeet$Scene" "channelCount" "I"] ++ wsX20)
def wsX2_addSpell : List Cond := .code yX2_addSpell cX2_addSpell 6 none :: ([.fieldLink RX2 16 "HopMeet$Scene" "spells" "[[I", .fieldLink RX2 37 "HopMeet$Scene" "spellCount" "I"] ++ wsX20)
def wsX2_nextLot : List Cond := .code yX2_nextLot cX2_nextLot 2 (some .long) :: ([.constantLong RX2 95 (16807), .constantLong RX2 97 (2147483647)])
def wsX2_drawLots : List Cond := .code yX2_drawLots cX2_drawLots 7 none :: ([.fieldLink RX2 34 "HopMeet$Scene" "userCount" "I", .fieldLink RX2 11 "HopMeet$Scene" "users" "[[I", .constantLong RX2 54 (100), .constantLong RX2 56 (50), .methodLink RX2 46 yX2_allChannels, .instanceMethod yX2_allChannels, .selects RX2 yX2_allChannels yX2_allChannels, .initialized RX2, .code yX2_allChannels cX2_allChannels 1 (some .int), .fieldLink RX2 23 "HopMeet$Scene" "channelCount" "I", .methodLink RX2 50 yX2_nextLot, .static yX2_nextLot, .code yX2_nextLot cX2_nextLot 2 (some .long), .constantLong RX2 95 (16807), .constantLong RX2 97 (2147483647)] ++ wsX20)
def wsX2_commonChannels : List Cond := .code yX2_commonChannels cX2_commonChannels 3 (some .int) :: ([.fieldLink RX2 34 "HopMeet$Scene" "userCount" "I", .fieldLink RX2 11 "HopMeet$Scene" "users" "[[I", .methodLink RX2 46 yX2_allChannels, .instanceMethod yX2_allChannels, .selects RX2 yX2_allChannels yX2_allChannels, .initialized RX2, .code yX2_allChannels cX2_allChannels 1 (some .int), .fieldLink RX2 23 "HopMeet$Scene" "channelCount" "I"] ++ wsX20)
def wsX2_whyNowhere_r1 : List Cond := [Cond.methodLink RX2 78 yX2_clockOf, Cond.instanceMethod yX2_clockOf, Cond.selects RX2 yX2_clockOf yX2_clockOf, Cond.initialized RX2, Cond.code yX2_clockOf cX2_clockOf 3 (some .int), Cond.fieldLink RX2 11 "HopMeet$Scene" "users" "[[I", Cond.methodLink RX2 81 yX2_placeByClock, Cond.instanceMethod yX2_placeByClock, Cond.selects RX2 yX2_placeByClock yX2_placeByClock, Cond.code yX2_placeByClock cX2_placeByClock 5 (some .int), Cond.methodLink RX2 62 yX2_aim, Cond.instanceMethod yX2_aim, Cond.selects RX2 yX2_aim yX2_aim, Cond.code yX2_aim cX2_aim 6 (some .int), Cond.fieldLink RX2 23 "HopMeet$Scene" "channelCount" "I", Cond.fieldLink RX2 31 "HopMeet$Scene" "prime" "I", Cond.methodLink RX2 58 yX2_aimOfJumpAndStay, Cond.instanceMethod yX2_aimOfJumpAndStay, Cond.selects RX2 yX2_aimOfJumpAndStay yX2_aimOfJumpAndStay, Cond.code yX2_aimOfJumpAndStay cX2_aimOfJumpAndStay 7 (some .int), Cond.methodLink RX2 66 yX2_holds, Cond.static yX2_holds, Cond.code yX2_holds cX2_holds 2 (some .boolean), Cond.methodLink RX2 70 yJ6_bitCount_0f7a4]
def wsX2_whyNowhere_r2 : List Cond := [Cond.static yJ6_bitCount_0f7a4, Cond.initialized RJ6, Cond.code yJ6_bitCount_0f7a4 cJ6_bitCount_0f7a4 1 (some .int), Cond.constant RJ6 265 (1431655765), Cond.constant RJ6 266 (858993459), Cond.constant RJ6 267 (252645135), Cond.methodLink RX2 75 yX2_memberWithNumber, Cond.static yX2_memberWithNumber, Cond.code yX2_memberWithNumber cX2_memberWithNumber 4 (some .int), Cond.methodLink RX2 84 yX2_isShut, Cond.instanceMethod yX2_isShut, Cond.selects RX2 yX2_isShut yX2_isShut, Cond.code yX2_isShut cX2_isShut 8 (some .boolean), Cond.fieldLink RX2 37 "HopMeet$Scene" "spellCount" "I", Cond.fieldLink RX2 16 "HopMeet$Scene" "spells" "[[I"]
def wsX2_whyNowhere : List Cond := .code yX2_whyNowhere cX2_whyNowhere 5 (some .int) :: ((wsX2_whyNowhere_r1 ++ wsX2_whyNowhere_r2) ++ wsX20)
def wsX2_meet_r1 : List Cond := [Cond.methodLink RX2 88 yX2_place, Cond.instanceMethod yX2_place, Cond.selects RX2 yX2_place yX2_place, Cond.initialized RX2, Cond.code yX2_place cX2_place 5 (some .int), Cond.methodLink RX2 78 yX2_clockOf, Cond.instanceMethod yX2_clockOf, Cond.selects RX2 yX2_clockOf yX2_clockOf, Cond.code yX2_clockOf cX2_clockOf 3 (some .int), Cond.fieldLink RX2 11 "HopMeet$Scene" "users" "[[I", Cond.methodLink RX2 81 yX2_placeByClock, Cond.instanceMethod yX2_placeByClock, Cond.selects RX2 yX2_placeByClock yX2_placeByClock, Cond.code yX2_placeByClock cX2_placeByClock 5 (some .int), Cond.methodLink RX2 62 yX2_aim, Cond.instanceMethod yX2_aim, Cond.selects RX2 yX2_aim yX2_aim, Cond.code yX2_aim cX2_aim 6 (some .int), Cond.fieldLink RX2 23 "HopMeet$Scene" "channelCount" "I", Cond.fieldLink RX2 31 "HopMeet$Scene" "prime" "I", Cond.methodLink RX2 58 yX2_aimOfJumpAndStay, Cond.instanceMethod yX2_aimOfJumpAndStay, Cond.selects RX2 yX2_aimOfJumpAndStay yX2_aimOfJumpAndStay, Cond.code yX2_aimOfJumpAndStay cX2_aimOfJumpAndStay 7 (some .int)]
def wsX2_meet_r2 : List Cond := [Cond.methodLink RX2 66 yX2_holds, Cond.static yX2_holds, Cond.code yX2_holds cX2_holds 2 (some .boolean), Cond.methodLink RX2 70 yJ6_bitCount_0f7a4, Cond.static yJ6_bitCount_0f7a4, Cond.initialized RJ6, Cond.code yJ6_bitCount_0f7a4 cJ6_bitCount_0f7a4 1 (some .int), Cond.constant RJ6 265 (1431655765), Cond.constant RJ6 266 (858993459), Cond.constant RJ6 267 (252645135), Cond.methodLink RX2 75 yX2_memberWithNumber, Cond.static yX2_memberWithNumber, Cond.code yX2_memberWithNumber cX2_memberWithNumber 4 (some .int), Cond.methodLink RX2 84 yX2_isShut, Cond.instanceMethod yX2_isShut, Cond.selects RX2 yX2_isShut yX2_isShut, Cond.code yX2_isShut cX2_isShut 8 (some .boolean), Cond.fieldLink RX2 37 "HopMeet$Scene" "spellCount" "I", Cond.fieldLink RX2 16 "HopMeet$Scene" "spells" "[[I"]
def wsX2_meet : List Cond := .code yX2_meet cX2_meet 5 (some .boolean) :: ((wsX2_meet_r1 ++ wsX2_meet_r2) ++ wsX20)
def wsX3_init_r1 : List Cond := [Cond.methodLink RX3 1 objectInit, Cond.instanceMethod objectInit, Cond.code objectInit ⟨#[0xb1]⟩ 1 none, Cond.classLink RX3 7 RX2, Cond.instantiable RX2 6, Cond.initialized RX2, Cond.fieldLink RX3 10 "HopMeet" "now" "LHopMeet$Scene;", Cond.classLink RX3 16 RX1, Cond.instantiable RX1 3, Cond.initialized RX1, Cond.fieldLink RX3 19 "HopMeet" "past" "LHopMeet$Past;", Cond.fieldLink RX3 23 "HopMeet" "images" "[LHopMeet$Scene;", Cond.arrayClass .boolean, Cond.fieldLink RX3 27 "HopMeet" "wasKept" "[Z", Cond.classLink RX3 31 RX0, Cond.instantiable RX0 4, Cond.initialized RX0, Cond.fieldLink RX3 34 "HopMeet" "groups" "LHopMeet$Groups;", Cond.arrayClass .int, Cond.fieldLink RX3 38 "HopMeet" "placesOfFirst" "[I", Cond.fieldLink RX3 42 "HopMeet" "placesOfSecond" "[I", Cond.fieldLink RX3 45 "HopMeet" "timesOn" "[I", Cond.methodLink RX3 9 yX2_init, Cond.instanceMethod yX2_init]
def wsX3_init_r2 : List Cond := [Cond.code yX2_init cX2_init 1 none, Cond.methodLink RX2 3 objectInit, Cond.classLink RX2 9 "[[I", Cond.fieldLink RX2 11 "HopMeet$Scene" "users" "[[I", Cond.fieldLink RX2 16 "HopMeet$Scene" "spells" "[[I", Cond.methodLink RX2 19 yX2_clear, Cond.instanceMethod yX2_clear, Cond.selects RX2 yX2_clear yX2_clear, Cond.code yX2_clear cX2_clear 2 none, Cond.fieldLink RX2 23 "HopMeet$Scene" "channelCount" "I", Cond.fieldLink RX2 31 "HopMeet$Scene" "prime" "I", Cond.fieldLink RX2 34 "HopMeet$Scene" "userCount" "I", Cond.fieldLink RX2 37 "HopMeet$Scene" "spellCount" "I", Cond.methodLink RX2 27 yX2_primeAbove, Cond.static yX2_primeAbove, Cond.code yX2_primeAbove cX2_primeAbove 2 (some .int), Cond.methodLink RX2 91 yX2_isPrime, Cond.static yX2_isPrime, Cond.code yX2_isPrime cX2_isPrime 2 (some .boolean), Cond.methodLink RX3 18 yX1_init, Cond.instanceMethod yX1_init, Cond.code yX1_init cX1_init 2 none, Cond.methodLink RX1 3 objectInit, Cond.classLink RX1 9 RX2]
def wsX3_init_r3 : List Cond := [Cond.fieldLink RX1 11 "HopMeet$Past" "scenes" "[LHopMeet$Scene;", Cond.methodLink RX1 17 yX2_init, Cond.methodLink RX3 33 yX0_init, Cond.instanceMethod yX0_init, Cond.code yX0_init cX0_init 1 none, Cond.methodLink RX0 3 objectInit, Cond.fieldLink RX0 9 "HopMeet$Groups" "least" "[I", Cond.fieldLink RX0 15 "HopMeet$Groups" "leaderOn" "[I"]
def wsX3_init : List Cond := .code yX3_init cX3_init 2 none :: ((wsX3_init_r1 ++ (wsX3_init_r2 ++ wsX3_init_r3)) ++ wsX20 ++ wsX30 ++ wsX10 ++ wsX00)
def wsX3_channels_r1 : List Cond := [Cond.constant RX3 48 (-1000000002), Cond.fieldLink RX3 10 "HopMeet" "now" "LHopMeet$Scene;", Cond.fieldLink RX3 19 "HopMeet" "past" "LHopMeet$Past;", Cond.fieldLink RX3 34 "HopMeet" "groups" "LHopMeet$Groups;", Cond.fieldLink RX3 59 "HopMeet$Scene" "prime" "I", Cond.methodLink RX3 49 yX2_clear, Cond.instanceMethod yX2_clear, Cond.selects RX2 yX2_clear yX2_clear, Cond.initialized RX2, Cond.code yX2_clear cX2_clear 2 none, Cond.fieldLink RX2 23 "HopMeet$Scene" "channelCount" "I", Cond.fieldLink RX2 31 "HopMeet$Scene" "prime" "I", Cond.fieldLink RX2 34 "HopMeet$Scene" "userCount" "I", Cond.fieldLink RX2 37 "HopMeet$Scene" "spellCount" "I", Cond.methodLink RX2 27 yX2_primeAbove, Cond.static yX2_primeAbove, Cond.code yX2_primeAbove cX2_primeAbove 2 (some .int), Cond.methodLink RX2 91 yX2_isPrime, Cond.static yX2_isPrime, Cond.code yX2_isPrime cX2_isPrime 2 (some .boolean), Cond.methodLink RX3 53 yX1_forget, Cond.instanceMethod yX1_forget, Cond.selects RX1 yX1_forget yX1_forget, Cond.initialized RX1]
def wsX3_channels_r2 : List Cond := [Cond.code yX1_forget cX1_forget 1 none, Cond.fieldLink RX1 18 "HopMeet$Past" "next" "I", Cond.fieldLink RX1 22 "HopMeet$Past" "count" "I", Cond.methodLink RX3 56 yX0_begin, Cond.instanceMethod yX0_begin, Cond.selects RX0 yX0_begin yX0_begin, Cond.initialized RX0, Cond.code yX0_begin cX0_begin 3 none, Cond.fieldLink RX0 18 "HopMeet$Groups" "slotsRun" "I", Cond.fieldLink RX0 22 "HopMeet$Groups" "userCount" "I", Cond.fieldLink RX0 9 "HopMeet$Groups" "least" "[I"]
def wsX3_channels : List Cond := .code yX3_channels cX3_channels 2 (some .int) :: ((wsX3_channels_r1 ++ wsX3_channels_r2) ++ wsX30 ++ wsX20 ++ wsX10 ++ wsX00)
def wsX3_mayHave : List Cond := .code yX3_mayHave cX3_mayHave 2 (some .boolean) :: ([.fieldLink RX3 185 "HopMeet" "MOST_OF" "[I"])
def wsX3_user_r1 : List Cond := [Cond.constant RX3 48 (-1000000002), Cond.fieldLink RX3 10 "HopMeet" "now" "LHopMeet$Scene;", Cond.fieldLink RX3 67 "HopMeet$Scene" "userCount" "I", Cond.constant RX3 70 (-1000000004), Cond.fieldLink RX3 19 "HopMeet" "past" "LHopMeet$Past;", Cond.fieldLink RX3 34 "HopMeet" "groups" "LHopMeet$Groups;", Cond.methodLink RX3 63 yX3_mayHave, Cond.static yX3_mayHave, Cond.initialized RX3, Cond.code yX3_mayHave cX3_mayHave 2 (some .boolean), Cond.fieldLink RX3 185 "HopMeet" "MOST_OF" "[I", Cond.methodLink RX3 71 yX1_remember, Cond.instanceMethod yX1_remember, Cond.selects RX1 yX1_remember yX1_remember, Cond.initialized RX1, Cond.code yX1_remember cX1_remember 2 none, Cond.fieldLink RX1 11 "HopMeet$Past" "scenes" "[LHopMeet$Scene;", Cond.fieldLink RX1 18 "HopMeet$Past" "next" "I", Cond.fieldLink RX1 22 "HopMeet$Past" "count" "I", Cond.methodLink RX1 29 Lib.Math.min.name, Cond.static Lib.Math.min.name, Cond.initialized "java/lang/Math", Cond.code Lib.Math.min.name Lib.Math.min.code 2 (some .int), Cond.methodLink RX1 25 yX2_become]
def wsX3_user_r2 : List Cond := [Cond.instanceMethod yX2_become, Cond.selects RX2 yX2_become yX2_become, Cond.initialized RX2, Cond.code yX2_become cX2_become 3 none, Cond.fieldLink RX2 23 "HopMeet$Scene" "channelCount" "I", Cond.fieldLink RX2 31 "HopMeet$Scene" "prime" "I", Cond.fieldLink RX2 34 "HopMeet$Scene" "userCount" "I", Cond.fieldLink RX2 37 "HopMeet$Scene" "spellCount" "I", Cond.fieldLink RX2 11 "HopMeet$Scene" "users" "[[I", Cond.methodLink RX2 40 arraycopyName, Cond.native arraycopyName, Cond.static arraycopyName, Cond.initialized "java/lang/System", Cond.fieldLink RX2 16 "HopMeet$Scene" "spells" "[[I", Cond.methodLink RX3 75 yX2_addUser, Cond.instanceMethod yX2_addUser, Cond.selects RX2 yX2_addUser yX2_addUser, Cond.code yX2_addUser cX2_addUser 6 none, Cond.methodLink RX2 46 yX2_allChannels, Cond.instanceMethod yX2_allChannels, Cond.selects RX2 yX2_allChannels yX2_allChannels, Cond.code yX2_allChannels cX2_allChannels 1 (some .int), Cond.methodLink RX3 56 yX0_begin, Cond.instanceMethod yX0_begin]
def wsX3_user_r3 : List Cond := [Cond.selects RX0 yX0_begin yX0_begin, Cond.initialized RX0, Cond.code yX0_begin cX0_begin 3 none, Cond.fieldLink RX0 18 "HopMeet$Groups" "slotsRun" "I", Cond.fieldLink RX0 22 "HopMeet$Groups" "userCount" "I", Cond.fieldLink RX0 9 "HopMeet$Groups" "least" "[I"]
def wsX3_user : List Cond := .code yX3_user cX3_user 5 (some .int) :: ((wsX3_user_r1 ++ (wsX3_user_r2 ++ wsX3_user_r3)) ++ wsX30 ++ wsX20 ++ wsX10 ++ wsX00)
def wsX3_isUser : List Cond := .code yX3_isUser cX3_isUser 2 (some .boolean) :: ([.fieldLink RX3 10 "HopMeet" "now" "LHopMeet$Scene;", .fieldLink RX3 67 "HopMeet$Scene" "userCount" "I"] ++ wsX30 ++ wsX20)
def wsX3_change_r1 : List Cond := [Cond.fieldLink RX3 19 "HopMeet" "past" "LHopMeet$Past;", Cond.fieldLink RX3 10 "HopMeet" "now" "LHopMeet$Scene;", Cond.fieldLink RX3 128 "HopMeet$Scene" "users" "[[I", Cond.fieldLink RX3 34 "HopMeet" "groups" "LHopMeet$Groups;", Cond.fieldLink RX3 67 "HopMeet$Scene" "userCount" "I", Cond.methodLink RX3 71 yX1_remember, Cond.instanceMethod yX1_remember, Cond.selects RX1 yX1_remember yX1_remember, Cond.initialized RX1, Cond.code yX1_remember cX1_remember 2 none, Cond.fieldLink RX1 11 "HopMeet$Past" "scenes" "[LHopMeet$Scene;", Cond.fieldLink RX1 18 "HopMeet$Past" "next" "I", Cond.fieldLink RX1 22 "HopMeet$Past" "count" "I", Cond.methodLink RX1 29 Lib.Math.min.name, Cond.static Lib.Math.min.name, Cond.initialized "java/lang/Math", Cond.code Lib.Math.min.name Lib.Math.min.code 2 (some .int), Cond.methodLink RX1 25 yX2_become, Cond.instanceMethod yX2_become, Cond.selects RX2 yX2_become yX2_become, Cond.initialized RX2, Cond.code yX2_become cX2_become 3 none, Cond.fieldLink RX2 23 "HopMeet$Scene" "channelCount" "I", Cond.fieldLink RX2 31 "HopMeet$Scene" "prime" "I"]
def wsX3_change_r2 : List Cond := [Cond.fieldLink RX2 34 "HopMeet$Scene" "userCount" "I", Cond.fieldLink RX2 37 "HopMeet$Scene" "spellCount" "I", Cond.fieldLink RX2 11 "HopMeet$Scene" "users" "[[I", Cond.methodLink RX2 40 arraycopyName, Cond.native arraycopyName, Cond.static arraycopyName, Cond.initialized "java/lang/System", Cond.fieldLink RX2 16 "HopMeet$Scene" "spells" "[[I", Cond.methodLink RX3 56 yX0_begin, Cond.instanceMethod yX0_begin, Cond.selects RX0 yX0_begin yX0_begin, Cond.initialized RX0, Cond.code yX0_begin cX0_begin 3 none, Cond.fieldLink RX0 18 "HopMeet$Groups" "slotsRun" "I", Cond.fieldLink RX0 22 "HopMeet$Groups" "userCount" "I", Cond.fieldLink RX0 9 "HopMeet$Groups" "least" "[I"]
def wsX3_change : List Cond := .code yX3_change cX3_change 5 (some .int) :: ((wsX3_change_r1 ++ wsX3_change_r2) ++ wsX30 ++ wsX20 ++ wsX10 ++ wsX00)
def wsX3_open_r1 : List Cond := [Cond.constant RX3 83 (-1000000001), Cond.fieldLink RX3 10 "HopMeet" "now" "LHopMeet$Scene;", Cond.constant RX3 48 (-1000000002), Cond.methodLink RX3 79 yX3_isUser, Cond.instanceMethod yX3_isUser, Cond.selects RX3 yX3_isUser yX3_isUser, Cond.initialized RX3, Cond.code yX3_isUser cX3_isUser 2 (some .boolean), Cond.fieldLink RX3 67 "HopMeet$Scene" "userCount" "I", Cond.methodLink RX3 84 yX2_allChannels, Cond.instanceMethod yX2_allChannels, Cond.selects RX2 yX2_allChannels yX2_allChannels, Cond.initialized RX2, Cond.code yX2_allChannels cX2_allChannels 1 (some .int), Cond.fieldLink RX2 23 "HopMeet$Scene" "channelCount" "I", Cond.methodLink RX3 88 yX3_change, Cond.instanceMethod yX3_change, Cond.selects RX3 yX3_change yX3_change, Cond.code yX3_change cX3_change 5 (some .int), Cond.fieldLink RX3 19 "HopMeet" "past" "LHopMeet$Past;", Cond.fieldLink RX3 128 "HopMeet$Scene" "users" "[[I", Cond.fieldLink RX3 34 "HopMeet" "groups" "LHopMeet$Groups;", Cond.methodLink RX3 71 yX1_remember, Cond.instanceMethod yX1_remember]
def wsX3_open_r2 : List Cond := [Cond.selects RX1 yX1_remember yX1_remember, Cond.initialized RX1, Cond.code yX1_remember cX1_remember 2 none, Cond.fieldLink RX1 11 "HopMeet$Past" "scenes" "[LHopMeet$Scene;", Cond.fieldLink RX1 18 "HopMeet$Past" "next" "I", Cond.fieldLink RX1 22 "HopMeet$Past" "count" "I", Cond.methodLink RX1 29 Lib.Math.min.name, Cond.static Lib.Math.min.name, Cond.initialized "java/lang/Math", Cond.code Lib.Math.min.name Lib.Math.min.code 2 (some .int), Cond.methodLink RX1 25 yX2_become, Cond.instanceMethod yX2_become, Cond.selects RX2 yX2_become yX2_become, Cond.code yX2_become cX2_become 3 none, Cond.fieldLink RX2 31 "HopMeet$Scene" "prime" "I", Cond.fieldLink RX2 34 "HopMeet$Scene" "userCount" "I", Cond.fieldLink RX2 37 "HopMeet$Scene" "spellCount" "I", Cond.fieldLink RX2 11 "HopMeet$Scene" "users" "[[I", Cond.methodLink RX2 40 arraycopyName, Cond.native arraycopyName, Cond.static arraycopyName, Cond.initialized "java/lang/System", Cond.fieldLink RX2 16 "HopMeet$Scene" "spells" "[[I", Cond.methodLink RX3 56 yX0_begin]
def wsX3_open_r3 : List Cond := [Cond.instanceMethod yX0_begin, Cond.selects RX0 yX0_begin yX0_begin, Cond.initialized RX0, Cond.code yX0_begin cX0_begin 3 none, Cond.fieldLink RX0 18 "HopMeet$Groups" "slotsRun" "I", Cond.fieldLink RX0 22 "HopMeet$Groups" "userCount" "I", Cond.fieldLink RX0 9 "HopMeet$Groups" "least" "[I"]
def wsX3_open : List Cond := .code yX3_open cX3_open 3 (some .int) :: ((wsX3_open_r1 ++ (wsX3_open_r2 ++ wsX3_open_r3)) ++ wsX30 ++ wsX20 ++ wsX10 ++ wsX00)
def wsX3_set_r1 : List Cond := [Cond.constant RX3 83 (-1000000001), Cond.constant RX3 48 (-1000000002), Cond.methodLink RX3 79 yX3_isUser, Cond.instanceMethod yX3_isUser, Cond.selects RX3 yX3_isUser yX3_isUser, Cond.initialized RX3, Cond.code yX3_isUser cX3_isUser 2 (some .boolean), Cond.fieldLink RX3 10 "HopMeet" "now" "LHopMeet$Scene;", Cond.fieldLink RX3 67 "HopMeet$Scene" "userCount" "I", Cond.methodLink RX3 63 yX3_mayHave, Cond.static yX3_mayHave, Cond.code yX3_mayHave cX3_mayHave 2 (some .boolean), Cond.fieldLink RX3 185 "HopMeet" "MOST_OF" "[I", Cond.methodLink RX3 88 yX3_change, Cond.instanceMethod yX3_change, Cond.selects RX3 yX3_change yX3_change, Cond.code yX3_change cX3_change 5 (some .int), Cond.fieldLink RX3 19 "HopMeet" "past" "LHopMeet$Past;", Cond.fieldLink RX3 128 "HopMeet$Scene" "users" "[[I", Cond.fieldLink RX3 34 "HopMeet" "groups" "LHopMeet$Groups;", Cond.methodLink RX3 71 yX1_remember, Cond.instanceMethod yX1_remember, Cond.selects RX1 yX1_remember yX1_remember, Cond.initialized RX1]
def wsX3_set_r2 : List Cond := [Cond.code yX1_remember cX1_remember 2 none, Cond.fieldLink RX1 11 "HopMeet$Past" "scenes" "[LHopMeet$Scene;", Cond.fieldLink RX1 18 "HopMeet$Past" "next" "I", Cond.fieldLink RX1 22 "HopMeet$Past" "count" "I", Cond.methodLink RX1 29 Lib.Math.min.name, Cond.static Lib.Math.min.name, Cond.initialized "java/lang/Math", Cond.code Lib.Math.min.name Lib.Math.min.code 2 (some .int), Cond.methodLink RX1 25 yX2_become, Cond.instanceMethod yX2_become, Cond.selects RX2 yX2_become yX2_become, Cond.initialized RX2, Cond.code yX2_become cX2_become 3 none, Cond.fieldLink RX2 23 "HopMeet$Scene" "channelCount" "I", Cond.fieldLink RX2 31 "HopMeet$Scene" "prime" "I", Cond.fieldLink RX2 34 "HopMeet$Scene" "userCount" "I", Cond.fieldLink RX2 37 "HopMeet$Scene" "spellCount" "I", Cond.fieldLink RX2 11 "HopMeet$Scene" "users" "[[I", Cond.methodLink RX2 40 arraycopyName, Cond.native arraycopyName, Cond.static arraycopyName, Cond.initialized "java/lang/System", Cond.fieldLink RX2 16 "HopMeet$Scene" "spells" "[[I", Cond.methodLink RX3 56 yX0_begin]
def wsX3_set_r3 : List Cond := [Cond.instanceMethod yX0_begin, Cond.selects RX0 yX0_begin yX0_begin, Cond.initialized RX0, Cond.code yX0_begin cX0_begin 3 none, Cond.fieldLink RX0 18 "HopMeet$Groups" "slotsRun" "I", Cond.fieldLink RX0 22 "HopMeet$Groups" "userCount" "I", Cond.fieldLink RX0 9 "HopMeet$Groups" "least" "[I"]
def wsX3_set : List Cond := .code yX3_set cX3_set 4 (some .int) :: ((wsX3_set_r1 ++ (wsX3_set_r2 ++ wsX3_set_r3)) ++ wsX30 ++ wsX20 ++ wsX10 ++ wsX00)
def wsX3_shut_r1 : List Cond := [Cond.constant RX3 83 (-1000000001), Cond.fieldLink RX3 10 "HopMeet" "now" "LHopMeet$Scene;", Cond.fieldLink RX3 92 "HopMeet$Scene" "channelCount" "I", Cond.constant RX3 48 (-1000000002), Cond.fieldLink RX3 95 "HopMeet$Scene" "spellCount" "I", Cond.constant RX3 70 (-1000000004), Cond.fieldLink RX3 19 "HopMeet" "past" "LHopMeet$Past;", Cond.fieldLink RX3 34 "HopMeet" "groups" "LHopMeet$Groups;", Cond.fieldLink RX3 67 "HopMeet$Scene" "userCount" "I", Cond.methodLink RX3 79 yX3_isUser, Cond.instanceMethod yX3_isUser, Cond.selects RX3 yX3_isUser yX3_isUser, Cond.initialized RX3, Cond.code yX3_isUser cX3_isUser 2 (some .boolean), Cond.methodLink RX3 71 yX1_remember, Cond.instanceMethod yX1_remember, Cond.selects RX1 yX1_remember yX1_remember, Cond.initialized RX1, Cond.code yX1_remember cX1_remember 2 none, Cond.fieldLink RX1 11 "HopMeet$Past" "scenes" "[LHopMeet$Scene;", Cond.fieldLink RX1 18 "HopMeet$Past" "next" "I", Cond.fieldLink RX1 22 "HopMeet$Past" "count" "I", Cond.methodLink RX1 29 Lib.Math.min.name, Cond.static Lib.Math.min.name]
def wsX3_shut_r2 : List Cond := [Cond.initialized "java/lang/Math", Cond.code Lib.Math.min.name Lib.Math.min.code 2 (some .int), Cond.methodLink RX1 25 yX2_become, Cond.instanceMethod yX2_become, Cond.selects RX2 yX2_become yX2_become, Cond.initialized RX2, Cond.code yX2_become cX2_become 3 none, Cond.fieldLink RX2 23 "HopMeet$Scene" "channelCount" "I", Cond.fieldLink RX2 31 "HopMeet$Scene" "prime" "I", Cond.fieldLink RX2 34 "HopMeet$Scene" "userCount" "I", Cond.fieldLink RX2 37 "HopMeet$Scene" "spellCount" "I", Cond.fieldLink RX2 11 "HopMeet$Scene" "users" "[[I", Cond.methodLink RX2 40 arraycopyName, Cond.native arraycopyName, Cond.static arraycopyName, Cond.initialized "java/lang/System", Cond.fieldLink RX2 16 "HopMeet$Scene" "spells" "[[I", Cond.methodLink RX3 98 yX2_addSpell, Cond.instanceMethod yX2_addSpell, Cond.selects RX2 yX2_addSpell yX2_addSpell, Cond.code yX2_addSpell cX2_addSpell 6 none, Cond.methodLink RX3 56 yX0_begin, Cond.instanceMethod yX0_begin, Cond.selects RX0 yX0_begin yX0_begin]
def wsX3_shut_r3 : List Cond := [Cond.initialized RX0, Cond.code yX0_begin cX0_begin 3 none, Cond.fieldLink RX0 18 "HopMeet$Groups" "slotsRun" "I", Cond.fieldLink RX0 22 "HopMeet$Groups" "userCount" "I", Cond.fieldLink RX0 9 "HopMeet$Groups" "least" "[I"]
def wsX3_shut : List Cond := .code yX3_shut cX3_shut 5 (some .int) :: ((wsX3_shut_r1 ++ (wsX3_shut_r2 ++ wsX3_shut_r3)) ++ wsX30 ++ wsX20 ++ wsX10 ++ wsX00)
def wsX3_drift_r1 : List Cond := [Cond.constant RX3 101 (999999), Cond.constant RX3 48 (-1000000002), Cond.fieldLink RX3 10 "HopMeet" "now" "LHopMeet$Scene;", Cond.fieldLink RX3 67 "HopMeet$Scene" "userCount" "I", Cond.constant RX3 102 (-1000000003), Cond.fieldLink RX3 19 "HopMeet" "past" "LHopMeet$Past;", Cond.fieldLink RX3 34 "HopMeet" "groups" "LHopMeet$Groups;", Cond.methodLink RX3 71 yX1_remember, Cond.instanceMethod yX1_remember, Cond.selects RX1 yX1_remember yX1_remember, Cond.initialized RX1, Cond.code yX1_remember cX1_remember 2 none, Cond.fieldLink RX1 11 "HopMeet$Past" "scenes" "[LHopMeet$Scene;", Cond.fieldLink RX1 18 "HopMeet$Past" "next" "I", Cond.fieldLink RX1 22 "HopMeet$Past" "count" "I", Cond.methodLink RX1 29 Lib.Math.min.name, Cond.static Lib.Math.min.name, Cond.initialized "java/lang/Math", Cond.code Lib.Math.min.name Lib.Math.min.code 2 (some .int), Cond.methodLink RX1 25 yX2_become, Cond.instanceMethod yX2_become, Cond.selects RX2 yX2_become yX2_become, Cond.initialized RX2, Cond.code yX2_become cX2_become 3 none]
def wsX3_drift_r2 : List Cond := [Cond.fieldLink RX2 23 "HopMeet$Scene" "channelCount" "I", Cond.fieldLink RX2 31 "HopMeet$Scene" "prime" "I", Cond.fieldLink RX2 34 "HopMeet$Scene" "userCount" "I", Cond.fieldLink RX2 37 "HopMeet$Scene" "spellCount" "I", Cond.fieldLink RX2 11 "HopMeet$Scene" "users" "[[I", Cond.methodLink RX2 40 arraycopyName, Cond.native arraycopyName, Cond.static arraycopyName, Cond.initialized "java/lang/System", Cond.fieldLink RX2 16 "HopMeet$Scene" "spells" "[[I", Cond.methodLink RX3 103 yX2_drawLots, Cond.instanceMethod yX2_drawLots, Cond.selects RX2 yX2_drawLots yX2_drawLots, Cond.code yX2_drawLots cX2_drawLots 7 none, Cond.constantLong RX2 54 (100), Cond.constantLong RX2 56 (50), Cond.methodLink RX2 46 yX2_allChannels, Cond.instanceMethod yX2_allChannels, Cond.selects RX2 yX2_allChannels yX2_allChannels, Cond.code yX2_allChannels cX2_allChannels 1 (some .int), Cond.methodLink RX2 50 yX2_nextLot, Cond.static yX2_nextLot, Cond.code yX2_nextLot cX2_nextLot 2 (some .long), Cond.constantLong RX2 95 (16807)]
def wsX3_drift_r3 : List Cond := [Cond.constantLong RX2 97 (2147483647), Cond.methodLink RX3 56 yX0_begin, Cond.instanceMethod yX0_begin, Cond.selects RX0 yX0_begin yX0_begin, Cond.initialized RX0, Cond.code yX0_begin cX0_begin 3 none, Cond.fieldLink RX0 18 "HopMeet$Groups" "slotsRun" "I", Cond.fieldLink RX0 22 "HopMeet$Groups" "userCount" "I", Cond.fieldLink RX0 9 "HopMeet$Groups" "least" "[I", Cond.methodLink RX3 106 yX2_commonChannels, Cond.instanceMethod yX2_commonChannels, Cond.selects RX2 yX2_commonChannels yX2_commonChannels, Cond.code yX2_commonChannels cX2_commonChannels 3 (some .int)]
def wsX3_drift : List Cond := .code yX3_drift cX3_drift 2 (some .int) :: ((wsX3_drift_r1 ++ (wsX3_drift_r2 ++ wsX3_drift_r3)) ++ wsX30 ++ wsX20 ++ wsX10 ++ wsX00)
def wsX3_undo_r1 : List Cond := [Cond.fieldLink RX3 19 "HopMeet" "past" "LHopMeet$Past;", Cond.fieldLink RX3 109 "HopMeet$Past" "count" "I", Cond.constant RX3 102 (-1000000003), Cond.fieldLink RX3 10 "HopMeet" "now" "LHopMeet$Scene;", Cond.fieldLink RX3 34 "HopMeet" "groups" "LHopMeet$Groups;", Cond.fieldLink RX3 67 "HopMeet$Scene" "userCount" "I", Cond.methodLink RX3 112 yX1_restore, Cond.instanceMethod yX1_restore, Cond.selects RX1 yX1_restore yX1_restore, Cond.initialized RX1, Cond.code yX1_restore cX1_restore 2 none, Cond.fieldLink RX1 18 "HopMeet$Past" "next" "I", Cond.fieldLink RX1 11 "HopMeet$Past" "scenes" "[LHopMeet$Scene;", Cond.fieldLink RX1 22 "HopMeet$Past" "count" "I", Cond.methodLink RX1 25 yX2_become, Cond.instanceMethod yX2_become, Cond.selects RX2 yX2_become yX2_become, Cond.initialized RX2, Cond.code yX2_become cX2_become 3 none, Cond.fieldLink RX2 23 "HopMeet$Scene" "channelCount" "I", Cond.fieldLink RX2 31 "HopMeet$Scene" "prime" "I", Cond.fieldLink RX2 34 "HopMeet$Scene" "userCount" "I", Cond.fieldLink RX2 37 "HopMeet$Scene" "spellCount" "I", Cond.fieldLink RX2 11 "HopMeet$Scene" "users" "[[I"]
def wsX3_undo_r2 : List Cond := [Cond.methodLink RX2 40 arraycopyName, Cond.native arraycopyName, Cond.static arraycopyName, Cond.initialized "java/lang/System", Cond.fieldLink RX2 16 "HopMeet$Scene" "spells" "[[I", Cond.methodLink RX3 56 yX0_begin, Cond.instanceMethod yX0_begin, Cond.selects RX0 yX0_begin yX0_begin, Cond.initialized RX0, Cond.code yX0_begin cX0_begin 3 none, Cond.fieldLink RX0 18 "HopMeet$Groups" "slotsRun" "I", Cond.fieldLink RX0 22 "HopMeet$Groups" "userCount" "I", Cond.fieldLink RX0 9 "HopMeet$Groups" "least" "[I"]
def wsX3_undo : List Cond := .code yX3_undo cX3_undo 1 (some .int) :: ((wsX3_undo_r1 ++ wsX3_undo_r2) ++ wsX30 ++ wsX10 ++ wsX20 ++ wsX00)
def wsX3_told_r1 : List Cond := [Cond.fieldLink RX3 10 "HopMeet" "now" "LHopMeet$Scene;", Cond.fieldLink RX3 92 "HopMeet$Scene" "channelCount" "I", Cond.fieldLink RX3 59 "HopMeet$Scene" "prime" "I", Cond.fieldLink RX3 67 "HopMeet$Scene" "userCount" "I", Cond.fieldLink RX3 95 "HopMeet$Scene" "spellCount" "I", Cond.fieldLink RX3 34 "HopMeet" "groups" "LHopMeet$Groups;", Cond.fieldLink RX3 115 "HopMeet$Groups" "slotsRun" "I", Cond.fieldLink RX3 19 "HopMeet" "past" "LHopMeet$Past;", Cond.fieldLink RX3 109 "HopMeet$Past" "count" "I", Cond.constant RX3 48 (-1000000002), Cond.methodLink RX3 106 yX2_commonChannels, Cond.instanceMethod yX2_commonChannels, Cond.selects RX2 yX2_commonChannels yX2_commonChannels, Cond.initialized RX2, Cond.code yX2_commonChannels cX2_commonChannels 3 (some .int), Cond.fieldLink RX2 34 "HopMeet$Scene" "userCount" "I", Cond.fieldLink RX2 11 "HopMeet$Scene" "users" "[[I", Cond.methodLink RX2 46 yX2_allChannels, Cond.instanceMethod yX2_allChannels, Cond.selects RX2 yX2_allChannels yX2_allChannels, Cond.code yX2_allChannels cX2_allChannels 1 (some .int), Cond.fieldLink RX2 23 "HopMeet$Scene" "channelCount" "I", Cond.methodLink RX3 118 yX0_howMany, Cond.instanceMethod yX0_howMany]
def wsX3_told_r2 : List Cond := [Cond.selects RX0 yX0_howMany yX0_howMany, Cond.initialized RX0, Cond.code yX0_howMany cX0_howMany 3 (some .int), Cond.fieldLink RX0 22 "HopMeet$Groups" "userCount" "I", Cond.fieldLink RX0 9 "HopMeet$Groups" "least" "[I"]
def wsX3_told : List Cond := .code yX3_told cX3_told 2 (some .int) :: ((wsX3_told_r1 ++ wsX3_told_r2) ++ wsX30 ++ wsX20 ++ wsX00 ++ wsX10)
def wsX3_userOf : List Cond := .code yX3_userOf cX3_userOf 3 (some .int) :: ([.constant RX3 83 (-1000000001), .constant RX3 48 (-1000000002), .fieldLink RX3 34 "HopMeet" "groups" "LHopMeet$Groups;", .fieldLink RX3 121 "HopMeet$Groups" "least" "[I", .fieldLink RX3 10 "HopMeet" "now" "LHopMeet$Scene;", .fieldLink RX3 128 "HopMeet$Scene" "users" "[[I", .methodLink RX3 79 yX3_isUser, .instanceMethod yX3_isUser, .selects RX3 yX3_isUser yX3_isUser, .initialized RX3, .code yX3_isUser cX3_isUser 2 (some .boolean), .fieldLink RX3 67 "HopMeet$Scene" "userCount" "I", .methodLink RX3 124 yX0_sizeOfGroupOf, .instanceMethod yX0_sizeOfGroupOf, .selects RX0 yX0_sizeOfGroupOf yX0_sizeOfGroupOf, .initialized RX0, .code yX0_sizeOfGroupOf cX0_sizeOfGroupOf 4 (some .int), .fieldLink RX0 22 "HopMeet$Groups" "userCount" "I", .fieldLink RX0 9 "HopMeet$Groups" "least" "[I"] ++ wsX30 ++ wsX00 ++ wsX20)
def wsX3_isSlotAsked : List Cond := .code yX3_isSlotAsked cX3_isSlotAsked 1 (some .boolean) :: ([])
def wsX3_pointsAt_r1 : List Cond := [Cond.constant RX3 83 (-1000000001), Cond.constant RX3 48 (-1000000002), Cond.fieldLink RX3 10 "HopMeet" "now" "LHopMeet$Scene;", Cond.methodLink RX3 79 yX3_isUser, Cond.instanceMethod yX3_isUser, Cond.selects RX3 yX3_isUser yX3_isUser, Cond.initialized RX3, Cond.code yX3_isUser cX3_isUser 2 (some .boolean), Cond.fieldLink RX3 67 "HopMeet$Scene" "userCount" "I", Cond.methodLink RX3 132 yX3_isSlotAsked, Cond.static yX3_isSlotAsked, Cond.code yX3_isSlotAsked cX3_isSlotAsked 1 (some .boolean), Cond.methodLink RX3 135 yX2_clockOf, Cond.instanceMethod yX2_clockOf, Cond.selects RX2 yX2_clockOf yX2_clockOf, Cond.initialized RX2, Cond.code yX2_clockOf cX2_clockOf 3 (some .int), Cond.fieldLink RX2 11 "HopMeet$Scene" "users" "[[I", Cond.methodLink RX3 139 yX2_aim, Cond.instanceMethod yX2_aim, Cond.selects RX2 yX2_aim yX2_aim, Cond.code yX2_aim cX2_aim 6 (some .int), Cond.fieldLink RX2 23 "HopMeet$Scene" "channelCount" "I", Cond.fieldLink RX2 31 "HopMeet$Scene" "prime" "I"]
def wsX3_pointsAt_r2 : List Cond := [Cond.methodLink RX2 58 yX2_aimOfJumpAndStay, Cond.instanceMethod yX2_aimOfJumpAndStay, Cond.selects RX2 yX2_aimOfJumpAndStay yX2_aimOfJumpAndStay, Cond.code yX2_aimOfJumpAndStay cX2_aimOfJumpAndStay 7 (some .int)]
def wsX3_pointsAt : List Cond := .code yX3_pointsAt cX3_pointsAt 4 (some .int) :: ((wsX3_pointsAt_r1 ++ wsX3_pointsAt_r2) ++ wsX30 ++ wsX20)
def wsX3_on_r1 : List Cond := [Cond.constant RX3 83 (-1000000001), Cond.fieldLink RX3 10 "HopMeet" "now" "LHopMeet$Scene;", Cond.constant RX3 48 (-1000000002), Cond.methodLink RX3 79 yX3_isUser, Cond.instanceMethod yX3_isUser, Cond.selects RX3 yX3_isUser yX3_isUser, Cond.initialized RX3, Cond.code yX3_isUser cX3_isUser 2 (some .boolean), Cond.fieldLink RX3 67 "HopMeet$Scene" "userCount" "I", Cond.methodLink RX3 132 yX3_isSlotAsked, Cond.static yX3_isSlotAsked, Cond.code yX3_isSlotAsked cX3_isSlotAsked 1 (some .boolean), Cond.methodLink RX3 142 yX2_place, Cond.instanceMethod yX2_place, Cond.selects RX2 yX2_place yX2_place, Cond.initialized RX2, Cond.code yX2_place cX2_place 5 (some .int), Cond.methodLink RX2 78 yX2_clockOf, Cond.instanceMethod yX2_clockOf, Cond.selects RX2 yX2_clockOf yX2_clockOf, Cond.code yX2_clockOf cX2_clockOf 3 (some .int), Cond.fieldLink RX2 11 "HopMeet$Scene" "users" "[[I", Cond.methodLink RX2 81 yX2_placeByClock, Cond.instanceMethod yX2_placeByClock]
def wsX3_on_r2 : List Cond := [Cond.selects RX2 yX2_placeByClock yX2_placeByClock, Cond.code yX2_placeByClock cX2_placeByClock 5 (some .int), Cond.methodLink RX2 62 yX2_aim, Cond.instanceMethod yX2_aim, Cond.selects RX2 yX2_aim yX2_aim, Cond.code yX2_aim cX2_aim 6 (some .int), Cond.fieldLink RX2 23 "HopMeet$Scene" "channelCount" "I", Cond.fieldLink RX2 31 "HopMeet$Scene" "prime" "I", Cond.methodLink RX2 58 yX2_aimOfJumpAndStay, Cond.instanceMethod yX2_aimOfJumpAndStay, Cond.selects RX2 yX2_aimOfJumpAndStay yX2_aimOfJumpAndStay, Cond.code yX2_aimOfJumpAndStay cX2_aimOfJumpAndStay 7 (some .int), Cond.methodLink RX2 66 yX2_holds, Cond.static yX2_holds, Cond.code yX2_holds cX2_holds 2 (some .boolean), Cond.methodLink RX2 70 yJ6_bitCount_0f7a4, Cond.static yJ6_bitCount_0f7a4, Cond.initialized RJ6, Cond.code yJ6_bitCount_0f7a4 cJ6_bitCount_0f7a4 1 (some .int), Cond.constant RJ6 265 (1431655765), Cond.constant RJ6 266 (858993459), Cond.constant RJ6 267 (252645135), Cond.methodLink RX2 75 yX2_memberWithNumber, Cond.static yX2_memberWithNumber]
def wsX3_on_r3 : List Cond := [Cond.code yX2_memberWithNumber cX2_memberWithNumber 4 (some .int), Cond.methodLink RX2 84 yX2_isShut, Cond.instanceMethod yX2_isShut, Cond.selects RX2 yX2_isShut yX2_isShut, Cond.code yX2_isShut cX2_isShut 8 (some .boolean), Cond.fieldLink RX2 37 "HopMeet$Scene" "spellCount" "I", Cond.fieldLink RX2 16 "HopMeet$Scene" "spells" "[[I"]
def wsX3_on : List Cond := .code yX3_on cX3_on 3 (some .int) :: ((wsX3_on_r1 ++ (wsX3_on_r2 ++ wsX3_on_r3)) ++ wsX30 ++ wsX20)
def wsX3_why_r1 : List Cond := [Cond.constant RX3 83 (-1000000001), Cond.fieldLink RX3 10 "HopMeet" "now" "LHopMeet$Scene;", Cond.constant RX3 48 (-1000000002), Cond.methodLink RX3 79 yX3_isUser, Cond.instanceMethod yX3_isUser, Cond.selects RX3 yX3_isUser yX3_isUser, Cond.initialized RX3, Cond.code yX3_isUser cX3_isUser 2 (some .boolean), Cond.fieldLink RX3 67 "HopMeet$Scene" "userCount" "I", Cond.methodLink RX3 132 yX3_isSlotAsked, Cond.static yX3_isSlotAsked, Cond.code yX3_isSlotAsked cX3_isSlotAsked 1 (some .boolean), Cond.methodLink RX3 145 yX2_whyNowhere, Cond.instanceMethod yX2_whyNowhere, Cond.selects RX2 yX2_whyNowhere yX2_whyNowhere, Cond.initialized RX2, Cond.code yX2_whyNowhere cX2_whyNowhere 5 (some .int), Cond.methodLink RX2 78 yX2_clockOf, Cond.instanceMethod yX2_clockOf, Cond.selects RX2 yX2_clockOf yX2_clockOf, Cond.code yX2_clockOf cX2_clockOf 3 (some .int), Cond.fieldLink RX2 11 "HopMeet$Scene" "users" "[[I", Cond.methodLink RX2 81 yX2_placeByClock, Cond.instanceMethod yX2_placeByClock]
def wsX3_why_r2 : List Cond := [Cond.selects RX2 yX2_placeByClock yX2_placeByClock, Cond.code yX2_placeByClock cX2_placeByClock 5 (some .int), Cond.methodLink RX2 62 yX2_aim, Cond.instanceMethod yX2_aim, Cond.selects RX2 yX2_aim yX2_aim, Cond.code yX2_aim cX2_aim 6 (some .int), Cond.fieldLink RX2 23 "HopMeet$Scene" "channelCount" "I", Cond.fieldLink RX2 31 "HopMeet$Scene" "prime" "I", Cond.methodLink RX2 58 yX2_aimOfJumpAndStay, Cond.instanceMethod yX2_aimOfJumpAndStay, Cond.selects RX2 yX2_aimOfJumpAndStay yX2_aimOfJumpAndStay, Cond.code yX2_aimOfJumpAndStay cX2_aimOfJumpAndStay 7 (some .int), Cond.methodLink RX2 66 yX2_holds, Cond.static yX2_holds, Cond.code yX2_holds cX2_holds 2 (some .boolean), Cond.methodLink RX2 70 yJ6_bitCount_0f7a4, Cond.static yJ6_bitCount_0f7a4, Cond.initialized RJ6, Cond.code yJ6_bitCount_0f7a4 cJ6_bitCount_0f7a4 1 (some .int), Cond.constant RJ6 265 (1431655765), Cond.constant RJ6 266 (858993459), Cond.constant RJ6 267 (252645135), Cond.methodLink RX2 75 yX2_memberWithNumber, Cond.static yX2_memberWithNumber]
def wsX3_why_r3 : List Cond := [Cond.code yX2_memberWithNumber cX2_memberWithNumber 4 (some .int), Cond.methodLink RX2 84 yX2_isShut, Cond.instanceMethod yX2_isShut, Cond.selects RX2 yX2_isShut yX2_isShut, Cond.code yX2_isShut cX2_isShut 8 (some .boolean), Cond.fieldLink RX2 37 "HopMeet$Scene" "spellCount" "I", Cond.fieldLink RX2 16 "HopMeet$Scene" "spells" "[[I"]
def wsX3_why : List Cond := .code yX3_why cX3_why 3 (some .int) :: ((wsX3_why_r1 ++ (wsX3_why_r2 ++ wsX3_why_r3)) ++ wsX30 ++ wsX20)
def wsX3_areTwoUsers : List Cond := .code yX3_areTwoUsers cX3_areTwoUsers 3 (some .boolean) :: ([.methodLink RX3 79 yX3_isUser, .instanceMethod yX3_isUser, .selects RX3 yX3_isUser yX3_isUser, .initialized RX3, .code yX3_isUser cX3_isUser 2 (some .boolean), .fieldLink RX3 10 "HopMeet" "now" "LHopMeet$Scene;", .fieldLink RX3 67 "HopMeet$Scene" "userCount" "I"] ++ wsX30 ++ wsX20)
def wsX3_first_r1 : List Cond := [Cond.constant RX3 83 (-1000000001), Cond.fieldLink RX3 10 "HopMeet" "now" "LHopMeet$Scene;", Cond.methodLink RX3 148 yX3_areTwoUsers, Cond.instanceMethod yX3_areTwoUsers, Cond.selects RX3 yX3_areTwoUsers yX3_areTwoUsers, Cond.initialized RX3, Cond.code yX3_areTwoUsers cX3_areTwoUsers 3 (some .boolean), Cond.methodLink RX3 79 yX3_isUser, Cond.instanceMethod yX3_isUser, Cond.selects RX3 yX3_isUser yX3_isUser, Cond.code yX3_isUser cX3_isUser 2 (some .boolean), Cond.fieldLink RX3 67 "HopMeet$Scene" "userCount" "I", Cond.methodLink RX3 151 yX2_meet, Cond.instanceMethod yX2_meet, Cond.selects RX2 yX2_meet yX2_meet, Cond.initialized RX2, Cond.code yX2_meet cX2_meet 5 (some .boolean), Cond.methodLink RX2 88 yX2_place, Cond.instanceMethod yX2_place, Cond.selects RX2 yX2_place yX2_place, Cond.code yX2_place cX2_place 5 (some .int), Cond.methodLink RX2 78 yX2_clockOf, Cond.instanceMethod yX2_clockOf, Cond.selects RX2 yX2_clockOf yX2_clockOf]
def wsX3_first_r2 : List Cond := [Cond.code yX2_clockOf cX2_clockOf 3 (some .int), Cond.fieldLink RX2 11 "HopMeet$Scene" "users" "[[I", Cond.methodLink RX2 81 yX2_placeByClock, Cond.instanceMethod yX2_placeByClock, Cond.selects RX2 yX2_placeByClock yX2_placeByClock, Cond.code yX2_placeByClock cX2_placeByClock 5 (some .int), Cond.methodLink RX2 62 yX2_aim, Cond.instanceMethod yX2_aim, Cond.selects RX2 yX2_aim yX2_aim, Cond.code yX2_aim cX2_aim 6 (some .int), Cond.fieldLink RX2 23 "HopMeet$Scene" "channelCount" "I", Cond.fieldLink RX2 31 "HopMeet$Scene" "prime" "I", Cond.methodLink RX2 58 yX2_aimOfJumpAndStay, Cond.instanceMethod yX2_aimOfJumpAndStay, Cond.selects RX2 yX2_aimOfJumpAndStay yX2_aimOfJumpAndStay, Cond.code yX2_aimOfJumpAndStay cX2_aimOfJumpAndStay 7 (some .int), Cond.methodLink RX2 66 yX2_holds, Cond.static yX2_holds, Cond.code yX2_holds cX2_holds 2 (some .boolean), Cond.methodLink RX2 70 yJ6_bitCount_0f7a4, Cond.static yJ6_bitCount_0f7a4, Cond.initialized RJ6, Cond.code yJ6_bitCount_0f7a4 cJ6_bitCount_0f7a4 1 (some .int), Cond.constant RJ6 265 (1431655765)]
def wsX3_first_r3 : List Cond := [Cond.constant RJ6 266 (858993459), Cond.constant RJ6 267 (252645135), Cond.methodLink RX2 75 yX2_memberWithNumber, Cond.static yX2_memberWithNumber, Cond.code yX2_memberWithNumber cX2_memberWithNumber 4 (some .int), Cond.methodLink RX2 84 yX2_isShut, Cond.instanceMethod yX2_isShut, Cond.selects RX2 yX2_isShut yX2_isShut, Cond.code yX2_isShut cX2_isShut 8 (some .boolean), Cond.fieldLink RX2 37 "HopMeet$Scene" "spellCount" "I", Cond.fieldLink RX2 16 "HopMeet$Scene" "spells" "[[I"]
def wsX3_first : List Cond := .code yX3_first cX3_first 4 (some .int) :: ((wsX3_first_r1 ++ (wsX3_first_r2 ++ wsX3_first_r3)) ++ wsX30 ++ wsX20)
def wsX3_isShift : List Cond := .code yX3_isShift cX3_isShift 1 (some .boolean) :: ([])
def wsX3_slotsToMeet : List Cond := .code yX3_slotsToMeet cX3_slotsToMeet 4 (some .int) :: ([.fieldLink RX3 42 "HopMeet" "placesOfSecond" "[I", .fieldLink RX3 38 "HopMeet" "placesOfFirst" "[I", .constant RX3 191 (99999)] ++ wsX30)
def wsX3_worstOfShifts_r1 : List Cond := [Cond.fieldLink RX3 38 "HopMeet" "placesOfFirst" "[I", Cond.fieldLink RX3 10 "HopMeet" "now" "LHopMeet$Scene;", Cond.fieldLink RX3 42 "HopMeet" "placesOfSecond" "[I", Cond.constant RX3 191 (99999), Cond.methodLink RX3 168 Lib.Math.max.name, Cond.static Lib.Math.max.name, Cond.initialized "java/lang/Math", Cond.code Lib.Math.max.name Lib.Math.max.code 2 (some .int), Cond.methodLink RX3 188 yX2_placeByClock, Cond.instanceMethod yX2_placeByClock, Cond.selects RX2 yX2_placeByClock yX2_placeByClock, Cond.initialized RX2, Cond.code yX2_placeByClock cX2_placeByClock 5 (some .int), Cond.fieldLink RX2 11 "HopMeet$Scene" "users" "[[I", Cond.methodLink RX2 62 yX2_aim, Cond.instanceMethod yX2_aim, Cond.selects RX2 yX2_aim yX2_aim, Cond.code yX2_aim cX2_aim 6 (some .int), Cond.fieldLink RX2 23 "HopMeet$Scene" "channelCount" "I", Cond.fieldLink RX2 31 "HopMeet$Scene" "prime" "I", Cond.methodLink RX2 58 yX2_aimOfJumpAndStay, Cond.instanceMethod yX2_aimOfJumpAndStay, Cond.selects RX2 yX2_aimOfJumpAndStay yX2_aimOfJumpAndStay, Cond.code yX2_aimOfJumpAndStay cX2_aimOfJumpAndStay 7 (some .int)]
def wsX3_worstOfShifts_r2 : List Cond := [Cond.methodLink RX2 66 yX2_holds, Cond.static yX2_holds, Cond.code yX2_holds cX2_holds 2 (some .boolean), Cond.methodLink RX2 70 yJ6_bitCount_0f7a4, Cond.static yJ6_bitCount_0f7a4, Cond.initialized RJ6, Cond.code yJ6_bitCount_0f7a4 cJ6_bitCount_0f7a4 1 (some .int), Cond.constant RJ6 265 (1431655765), Cond.constant RJ6 266 (858993459), Cond.constant RJ6 267 (252645135), Cond.methodLink RX2 75 yX2_memberWithNumber, Cond.static yX2_memberWithNumber, Cond.code yX2_memberWithNumber cX2_memberWithNumber 4 (some .int), Cond.methodLink RX3 192 yX3_slotsToMeet, Cond.instanceMethod yX3_slotsToMeet, Cond.selects RX3 yX3_slotsToMeet yX3_slotsToMeet, Cond.initialized RX3, Cond.code yX3_slotsToMeet cX3_slotsToMeet 4 (some .int)]
def wsX3_worstOfShifts : List Cond := .code yX3_worstOfShifts cX3_worstOfShifts 6 (some .int) :: ((wsX3_worstOfShifts_r1 ++ wsX3_worstOfShifts_r2) ++ wsX30 ++ wsX20)
def wsX3_worst_r1 : List Cond := [Cond.constant RX3 83 (-1000000001), Cond.constant RX3 48 (-1000000002), Cond.methodLink RX3 148 yX3_areTwoUsers, Cond.instanceMethod yX3_areTwoUsers, Cond.selects RX3 yX3_areTwoUsers yX3_areTwoUsers, Cond.initialized RX3, Cond.code yX3_areTwoUsers cX3_areTwoUsers 3 (some .boolean), Cond.methodLink RX3 79 yX3_isUser, Cond.instanceMethod yX3_isUser, Cond.selects RX3 yX3_isUser yX3_isUser, Cond.code yX3_isUser cX3_isUser 2 (some .boolean), Cond.fieldLink RX3 10 "HopMeet" "now" "LHopMeet$Scene;", Cond.fieldLink RX3 67 "HopMeet$Scene" "userCount" "I", Cond.methodLink RX3 155 yX3_isShift, Cond.static yX3_isShift, Cond.code yX3_isShift cX3_isShift 1 (some .boolean), Cond.methodLink RX3 158 yX3_worstOfShifts, Cond.instanceMethod yX3_worstOfShifts, Cond.selects RX3 yX3_worstOfShifts yX3_worstOfShifts, Cond.code yX3_worstOfShifts cX3_worstOfShifts 6 (some .int), Cond.fieldLink RX3 38 "HopMeet" "placesOfFirst" "[I", Cond.fieldLink RX3 42 "HopMeet" "placesOfSecond" "[I", Cond.constant RX3 191 (99999), Cond.methodLink RX3 168 Lib.Math.max.name]
def wsX3_worst_r2 : List Cond := [Cond.static Lib.Math.max.name, Cond.initialized "java/lang/Math", Cond.code Lib.Math.max.name Lib.Math.max.code 2 (some .int), Cond.methodLink RX3 188 yX2_placeByClock, Cond.instanceMethod yX2_placeByClock, Cond.selects RX2 yX2_placeByClock yX2_placeByClock, Cond.initialized RX2, Cond.code yX2_placeByClock cX2_placeByClock 5 (some .int), Cond.fieldLink RX2 11 "HopMeet$Scene" "users" "[[I", Cond.methodLink RX2 62 yX2_aim, Cond.instanceMethod yX2_aim, Cond.selects RX2 yX2_aim yX2_aim, Cond.code yX2_aim cX2_aim 6 (some .int), Cond.fieldLink RX2 23 "HopMeet$Scene" "channelCount" "I", Cond.fieldLink RX2 31 "HopMeet$Scene" "prime" "I", Cond.methodLink RX2 58 yX2_aimOfJumpAndStay, Cond.instanceMethod yX2_aimOfJumpAndStay, Cond.selects RX2 yX2_aimOfJumpAndStay yX2_aimOfJumpAndStay, Cond.code yX2_aimOfJumpAndStay cX2_aimOfJumpAndStay 7 (some .int), Cond.methodLink RX2 66 yX2_holds, Cond.static yX2_holds, Cond.code yX2_holds cX2_holds 2 (some .boolean), Cond.methodLink RX2 70 yJ6_bitCount_0f7a4, Cond.static yJ6_bitCount_0f7a4]
def wsX3_worst_r3 : List Cond := [Cond.initialized RJ6, Cond.code yJ6_bitCount_0f7a4 cJ6_bitCount_0f7a4 1 (some .int), Cond.constant RJ6 265 (1431655765), Cond.constant RJ6 266 (858993459), Cond.constant RJ6 267 (252645135), Cond.methodLink RX2 75 yX2_memberWithNumber, Cond.static yX2_memberWithNumber, Cond.code yX2_memberWithNumber cX2_memberWithNumber 4 (some .int), Cond.methodLink RX3 192 yX3_slotsToMeet, Cond.instanceMethod yX3_slotsToMeet, Cond.selects RX3 yX3_slotsToMeet yX3_slotsToMeet, Cond.code yX3_slotsToMeet cX3_slotsToMeet 4 (some .int)]
def wsX3_worst : List Cond := .code yX3_worst cX3_worst 4 (some .int) :: ((wsX3_worst_r1 ++ (wsX3_worst_r2 ++ wsX3_worst_r3)) ++ wsX30 ++ wsX20)
def wsX3_bound_r1 : List Cond := [Cond.constant RX3 83 (-1000000001), Cond.constant RX3 48 (-1000000002), Cond.methodLink RX3 148 yX3_areTwoUsers, Cond.instanceMethod yX3_areTwoUsers, Cond.selects RX3 yX3_areTwoUsers yX3_areTwoUsers, Cond.initialized RX3, Cond.code yX3_areTwoUsers cX3_areTwoUsers 3 (some .boolean), Cond.methodLink RX3 79 yX3_isUser, Cond.instanceMethod yX3_isUser, Cond.selects RX3 yX3_isUser yX3_isUser, Cond.code yX3_isUser cX3_isUser 2 (some .boolean), Cond.fieldLink RX3 10 "HopMeet" "now" "LHopMeet$Scene;", Cond.fieldLink RX3 67 "HopMeet$Scene" "userCount" "I", Cond.methodLink RX3 155 yX3_isShift, Cond.static yX3_isShift, Cond.code yX3_isShift cX3_isShift 1 (some .boolean), Cond.methodLink RX3 158 yX3_worstOfShifts, Cond.instanceMethod yX3_worstOfShifts, Cond.selects RX3 yX3_worstOfShifts yX3_worstOfShifts, Cond.code yX3_worstOfShifts cX3_worstOfShifts 6 (some .int), Cond.fieldLink RX3 38 "HopMeet" "placesOfFirst" "[I", Cond.fieldLink RX3 42 "HopMeet" "placesOfSecond" "[I", Cond.constant RX3 191 (99999), Cond.methodLink RX3 168 Lib.Math.max.name]
def wsX3_bound_r2 : List Cond := [Cond.static Lib.Math.max.name, Cond.initialized "java/lang/Math", Cond.code Lib.Math.max.name Lib.Math.max.code 2 (some .int), Cond.methodLink RX3 188 yX2_placeByClock, Cond.instanceMethod yX2_placeByClock, Cond.selects RX2 yX2_placeByClock yX2_placeByClock, Cond.initialized RX2, Cond.code yX2_placeByClock cX2_placeByClock 5 (some .int), Cond.fieldLink RX2 11 "HopMeet$Scene" "users" "[[I", Cond.methodLink RX2 62 yX2_aim, Cond.instanceMethod yX2_aim, Cond.selects RX2 yX2_aim yX2_aim, Cond.code yX2_aim cX2_aim 6 (some .int), Cond.fieldLink RX2 23 "HopMeet$Scene" "channelCount" "I", Cond.fieldLink RX2 31 "HopMeet$Scene" "prime" "I", Cond.methodLink RX2 58 yX2_aimOfJumpAndStay, Cond.instanceMethod yX2_aimOfJumpAndStay, Cond.selects RX2 yX2_aimOfJumpAndStay yX2_aimOfJumpAndStay, Cond.code yX2_aimOfJumpAndStay cX2_aimOfJumpAndStay 7 (some .int), Cond.methodLink RX2 66 yX2_holds, Cond.static yX2_holds, Cond.code yX2_holds cX2_holds 2 (some .boolean), Cond.methodLink RX2 70 yJ6_bitCount_0f7a4, Cond.static yJ6_bitCount_0f7a4]
def wsX3_bound_r3 : List Cond := [Cond.initialized RJ6, Cond.code yJ6_bitCount_0f7a4 cJ6_bitCount_0f7a4 1 (some .int), Cond.constant RJ6 265 (1431655765), Cond.constant RJ6 266 (858993459), Cond.constant RJ6 267 (252645135), Cond.methodLink RX2 75 yX2_memberWithNumber, Cond.static yX2_memberWithNumber, Cond.code yX2_memberWithNumber cX2_memberWithNumber 4 (some .int), Cond.methodLink RX3 192 yX3_slotsToMeet, Cond.instanceMethod yX3_slotsToMeet, Cond.selects RX3 yX3_slotsToMeet yX3_slotsToMeet, Cond.code yX3_slotsToMeet cX3_slotsToMeet 4 (some .int)]
def wsX3_bound : List Cond := .code yX3_bound cX3_bound 5 (some .int) :: ((wsX3_bound_r1 ++ (wsX3_bound_r2 ++ wsX3_bound_r3)) ++ wsX30 ++ wsX20)
def wsX3_together_r1 : List Cond := [Cond.constant RX3 83 (-1000000001), Cond.constant RX3 48 (-1000000002), Cond.fieldLink RX3 10 "HopMeet" "now" "LHopMeet$Scene;", Cond.methodLink RX3 148 yX3_areTwoUsers, Cond.instanceMethod yX3_areTwoUsers, Cond.selects RX3 yX3_areTwoUsers yX3_areTwoUsers, Cond.initialized RX3, Cond.code yX3_areTwoUsers cX3_areTwoUsers 3 (some .boolean), Cond.methodLink RX3 79 yX3_isUser, Cond.instanceMethod yX3_isUser, Cond.selects RX3 yX3_isUser yX3_isUser, Cond.code yX3_isUser cX3_isUser 2 (some .boolean), Cond.fieldLink RX3 67 "HopMeet$Scene" "userCount" "I", Cond.methodLink RX3 151 yX2_meet, Cond.instanceMethod yX2_meet, Cond.selects RX2 yX2_meet yX2_meet, Cond.initialized RX2, Cond.code yX2_meet cX2_meet 5 (some .boolean), Cond.methodLink RX2 88 yX2_place, Cond.instanceMethod yX2_place, Cond.selects RX2 yX2_place yX2_place, Cond.code yX2_place cX2_place 5 (some .int), Cond.methodLink RX2 78 yX2_clockOf, Cond.instanceMethod yX2_clockOf]
def wsX3_together_r2 : List Cond := [Cond.selects RX2 yX2_clockOf yX2_clockOf, Cond.code yX2_clockOf cX2_clockOf 3 (some .int), Cond.fieldLink RX2 11 "HopMeet$Scene" "users" "[[I", Cond.methodLink RX2 81 yX2_placeByClock, Cond.instanceMethod yX2_placeByClock, Cond.selects RX2 yX2_placeByClock yX2_placeByClock, Cond.code yX2_placeByClock cX2_placeByClock 5 (some .int), Cond.methodLink RX2 62 yX2_aim, Cond.instanceMethod yX2_aim, Cond.selects RX2 yX2_aim yX2_aim, Cond.code yX2_aim cX2_aim 6 (some .int), Cond.fieldLink RX2 23 "HopMeet$Scene" "channelCount" "I", Cond.fieldLink RX2 31 "HopMeet$Scene" "prime" "I", Cond.methodLink RX2 58 yX2_aimOfJumpAndStay, Cond.instanceMethod yX2_aimOfJumpAndStay, Cond.selects RX2 yX2_aimOfJumpAndStay yX2_aimOfJumpAndStay, Cond.code yX2_aimOfJumpAndStay cX2_aimOfJumpAndStay 7 (some .int), Cond.methodLink RX2 66 yX2_holds, Cond.static yX2_holds, Cond.code yX2_holds cX2_holds 2 (some .boolean), Cond.methodLink RX2 70 yJ6_bitCount_0f7a4, Cond.static yJ6_bitCount_0f7a4, Cond.initialized RJ6, Cond.code yJ6_bitCount_0f7a4 cJ6_bitCount_0f7a4 1 (some .int)]
def wsX3_together_r3 : List Cond := [Cond.constant RJ6 265 (1431655765), Cond.constant RJ6 266 (858993459), Cond.constant RJ6 267 (252645135), Cond.methodLink RX2 75 yX2_memberWithNumber, Cond.static yX2_memberWithNumber, Cond.code yX2_memberWithNumber cX2_memberWithNumber 4 (some .int), Cond.methodLink RX2 84 yX2_isShut, Cond.instanceMethod yX2_isShut, Cond.selects RX2 yX2_isShut yX2_isShut, Cond.code yX2_isShut cX2_isShut 8 (some .boolean), Cond.fieldLink RX2 37 "HopMeet$Scene" "spellCount" "I", Cond.fieldLink RX2 16 "HopMeet$Scene" "spells" "[[I"]
def wsX3_together : List Cond := .code yX3_together cX3_together 6 (some .int) :: ((wsX3_together_r1 ++ (wsX3_together_r2 ++ wsX3_together_r3)) ++ wsX30 ++ wsX20)
def wsX3_countTimesOn_r1 : List Cond := [Cond.fieldLink RX3 45 "HopMeet" "timesOn" "[I", Cond.fieldLink RX3 10 "HopMeet" "now" "LHopMeet$Scene;", Cond.methodLink RX3 188 yX2_placeByClock, Cond.instanceMethod yX2_placeByClock, Cond.selects RX2 yX2_placeByClock yX2_placeByClock, Cond.initialized RX2, Cond.code yX2_placeByClock cX2_placeByClock 5 (some .int), Cond.fieldLink RX2 11 "HopMeet$Scene" "users" "[[I", Cond.methodLink RX2 62 yX2_aim, Cond.instanceMethod yX2_aim, Cond.selects RX2 yX2_aim yX2_aim, Cond.code yX2_aim cX2_aim 6 (some .int), Cond.fieldLink RX2 23 "HopMeet$Scene" "channelCount" "I", Cond.fieldLink RX2 31 "HopMeet$Scene" "prime" "I", Cond.methodLink RX2 58 yX2_aimOfJumpAndStay, Cond.instanceMethod yX2_aimOfJumpAndStay, Cond.selects RX2 yX2_aimOfJumpAndStay yX2_aimOfJumpAndStay, Cond.code yX2_aimOfJumpAndStay cX2_aimOfJumpAndStay 7 (some .int), Cond.methodLink RX2 66 yX2_holds, Cond.static yX2_holds, Cond.code yX2_holds cX2_holds 2 (some .boolean), Cond.methodLink RX2 70 yJ6_bitCount_0f7a4, Cond.static yJ6_bitCount_0f7a4, Cond.initialized RJ6]
def wsX3_countTimesOn_r2 : List Cond := [Cond.code yJ6_bitCount_0f7a4 cJ6_bitCount_0f7a4 1 (some .int), Cond.constant RJ6 265 (1431655765), Cond.constant RJ6 266 (858993459), Cond.constant RJ6 267 (252645135), Cond.methodLink RX2 75 yX2_memberWithNumber, Cond.static yX2_memberWithNumber, Cond.code yX2_memberWithNumber cX2_memberWithNumber 4 (some .int)]
def wsX3_countTimesOn : List Cond := .code yX3_countTimesOn cX3_countTimesOn 5 none :: ((wsX3_countTimesOn_r1 ++ wsX3_countTimesOn_r2) ++ wsX30 ++ wsX20)
def wsX3_even_r1 : List Cond := [Cond.constant RX3 83 (-1000000001), Cond.constant RX3 48 (-1000000002), Cond.fieldLink RX3 10 "HopMeet" "now" "LHopMeet$Scene;", Cond.fieldLink RX3 128 "HopMeet$Scene" "users" "[[I", Cond.fieldLink RX3 92 "HopMeet$Scene" "channelCount" "I", Cond.fieldLink RX3 45 "HopMeet" "timesOn" "[I", Cond.methodLink RX3 168 Lib.Math.max.name, Cond.static Lib.Math.max.name, Cond.initialized "java/lang/Math", Cond.code Lib.Math.max.name Lib.Math.max.code 2 (some .int), Cond.methodLink RX3 173 Lib.Math.min.name, Cond.static Lib.Math.min.name, Cond.code Lib.Math.min.name Lib.Math.min.code 2 (some .int), Cond.methodLink RX3 79 yX3_isUser, Cond.instanceMethod yX3_isUser, Cond.selects RX3 yX3_isUser yX3_isUser, Cond.initialized RX3, Cond.code yX3_isUser cX3_isUser 2 (some .boolean), Cond.fieldLink RX3 67 "HopMeet$Scene" "userCount" "I", Cond.methodLink RX3 161 yX3_countTimesOn, Cond.instanceMethod yX3_countTimesOn, Cond.selects RX3 yX3_countTimesOn yX3_countTimesOn, Cond.code yX3_countTimesOn cX3_countTimesOn 5 none, Cond.methodLink RX3 188 yX2_placeByClock]
def wsX3_even_r2 : List Cond := [Cond.instanceMethod yX2_placeByClock, Cond.selects RX2 yX2_placeByClock yX2_placeByClock, Cond.initialized RX2, Cond.code yX2_placeByClock cX2_placeByClock 5 (some .int), Cond.fieldLink RX2 11 "HopMeet$Scene" "users" "[[I", Cond.methodLink RX2 62 yX2_aim, Cond.instanceMethod yX2_aim, Cond.selects RX2 yX2_aim yX2_aim, Cond.code yX2_aim cX2_aim 6 (some .int), Cond.fieldLink RX2 23 "HopMeet$Scene" "channelCount" "I", Cond.fieldLink RX2 31 "HopMeet$Scene" "prime" "I", Cond.methodLink RX2 58 yX2_aimOfJumpAndStay, Cond.instanceMethod yX2_aimOfJumpAndStay, Cond.selects RX2 yX2_aimOfJumpAndStay yX2_aimOfJumpAndStay, Cond.code yX2_aimOfJumpAndStay cX2_aimOfJumpAndStay 7 (some .int), Cond.methodLink RX2 66 yX2_holds, Cond.static yX2_holds, Cond.code yX2_holds cX2_holds 2 (some .boolean), Cond.methodLink RX2 70 yJ6_bitCount_0f7a4, Cond.static yJ6_bitCount_0f7a4, Cond.initialized RJ6, Cond.code yJ6_bitCount_0f7a4 cJ6_bitCount_0f7a4 1 (some .int), Cond.constant RJ6 265 (1431655765), Cond.constant RJ6 266 (858993459)]
def wsX3_even_r3 : List Cond := [Cond.constant RJ6 267 (252645135), Cond.methodLink RX2 75 yX2_memberWithNumber, Cond.static yX2_memberWithNumber, Cond.code yX2_memberWithNumber cX2_memberWithNumber 4 (some .int), Cond.methodLink RX3 165 yX2_holds]
def wsX3_even : List Cond := .code yX3_even cX3_even 7 (some .int) :: ((wsX3_even_r1 ++ (wsX3_even_r2 ++ wsX3_even_r3)) ++ wsX30 ++ wsX20)
def wsX3_run_r1 : List Cond := [Cond.constant RX3 48 (-1000000002), Cond.fieldLink RX3 10 "HopMeet" "now" "LHopMeet$Scene;", Cond.fieldLink RX3 67 "HopMeet$Scene" "userCount" "I", Cond.constant RX3 102 (-1000000003), Cond.fieldLink RX3 34 "HopMeet" "groups" "LHopMeet$Groups;", Cond.fieldLink RX3 115 "HopMeet$Groups" "slotsRun" "I", Cond.constant RX3 70 (-1000000004), Cond.methodLink RX3 176 yX0_runSlot, Cond.instanceMethod yX0_runSlot, Cond.selects RX0 yX0_runSlot yX0_runSlot, Cond.initialized RX0, Cond.code yX0_runSlot cX0_runSlot 3 none, Cond.fieldLink RX0 15 "HopMeet$Groups" "leaderOn" "[I", Cond.fieldLink RX0 22 "HopMeet$Groups" "userCount" "I", Cond.fieldLink RX0 9 "HopMeet$Groups" "least" "[I", Cond.fieldLink RX0 18 "HopMeet$Groups" "slotsRun" "I", Cond.methodLink RX0 25 yX2_place, Cond.instanceMethod yX2_place, Cond.selects RX2 yX2_place yX2_place, Cond.initialized RX2, Cond.code yX2_place cX2_place 5 (some .int), Cond.methodLink RX2 78 yX2_clockOf, Cond.instanceMethod yX2_clockOf, Cond.selects RX2 yX2_clockOf yX2_clockOf]
def wsX3_run_r2 : List Cond := [Cond.code yX2_clockOf cX2_clockOf 3 (some .int), Cond.fieldLink RX2 11 "HopMeet$Scene" "users" "[[I", Cond.methodLink RX2 81 yX2_placeByClock, Cond.instanceMethod yX2_placeByClock, Cond.selects RX2 yX2_placeByClock yX2_placeByClock, Cond.code yX2_placeByClock cX2_placeByClock 5 (some .int), Cond.methodLink RX2 62 yX2_aim, Cond.instanceMethod yX2_aim, Cond.selects RX2 yX2_aim yX2_aim, Cond.code yX2_aim cX2_aim 6 (some .int), Cond.fieldLink RX2 23 "HopMeet$Scene" "channelCount" "I", Cond.fieldLink RX2 31 "HopMeet$Scene" "prime" "I", Cond.methodLink RX2 58 yX2_aimOfJumpAndStay, Cond.instanceMethod yX2_aimOfJumpAndStay, Cond.selects RX2 yX2_aimOfJumpAndStay yX2_aimOfJumpAndStay, Cond.code yX2_aimOfJumpAndStay cX2_aimOfJumpAndStay 7 (some .int), Cond.methodLink RX2 66 yX2_holds, Cond.static yX2_holds, Cond.code yX2_holds cX2_holds 2 (some .boolean), Cond.methodLink RX2 70 yJ6_bitCount_0f7a4, Cond.static yJ6_bitCount_0f7a4, Cond.initialized RJ6, Cond.code yJ6_bitCount_0f7a4 cJ6_bitCount_0f7a4 1 (some .int), Cond.constant RJ6 265 (1431655765)]
def wsX3_run_r3 : List Cond := [Cond.constant RJ6 266 (858993459), Cond.constant RJ6 267 (252645135), Cond.methodLink RX2 75 yX2_memberWithNumber, Cond.static yX2_memberWithNumber, Cond.code yX2_memberWithNumber cX2_memberWithNumber 4 (some .int), Cond.methodLink RX2 84 yX2_isShut, Cond.instanceMethod yX2_isShut, Cond.selects RX2 yX2_isShut yX2_isShut, Cond.code yX2_isShut cX2_isShut 8 (some .boolean), Cond.fieldLink RX2 37 "HopMeet$Scene" "spellCount" "I", Cond.fieldLink RX2 16 "HopMeet$Scene" "spells" "[[I", Cond.methodLink RX0 31 yX0_settle, Cond.instanceMethod yX0_settle, Cond.selects RX0 yX0_settle yX0_settle, Cond.code yX0_settle cX0_settle 3 none, Cond.methodLink RX0 35 yX0_join, Cond.instanceMethod yX0_join, Cond.selects RX0 yX0_join yX0_join, Cond.code yX0_join cX0_join 4 none, Cond.methodLink RX3 118 yX0_howMany, Cond.instanceMethod yX0_howMany, Cond.selects RX0 yX0_howMany yX0_howMany, Cond.code yX0_howMany cX0_howMany 3 (some .int)]
def wsX3_run : List Cond := .code yX3_run cX3_run 3 (some .int) :: ((wsX3_run_r1 ++ (wsX3_run_r2 ++ wsX3_run_r3)) ++ wsX30 ++ wsX20 ++ wsX00)
def wsX3_merge_r1 : List Cond := [Cond.fieldLink RX3 10 "HopMeet" "now" "LHopMeet$Scene;", Cond.fieldLink RX3 67 "HopMeet$Scene" "userCount" "I", Cond.constant RX3 102 (-1000000003), Cond.fieldLink RX3 34 "HopMeet" "groups" "LHopMeet$Groups;", Cond.fieldLink RX3 115 "HopMeet$Groups" "slotsRun" "I", Cond.methodLink RX3 118 yX0_howMany, Cond.instanceMethod yX0_howMany, Cond.selects RX0 yX0_howMany yX0_howMany, Cond.initialized RX0, Cond.code yX0_howMany cX0_howMany 3 (some .int), Cond.fieldLink RX0 22 "HopMeet$Groups" "userCount" "I", Cond.fieldLink RX0 9 "HopMeet$Groups" "least" "[I", Cond.methodLink RX3 176 yX0_runSlot, Cond.instanceMethod yX0_runSlot, Cond.selects RX0 yX0_runSlot yX0_runSlot, Cond.code yX0_runSlot cX0_runSlot 3 none, Cond.fieldLink RX0 15 "HopMeet$Groups" "leaderOn" "[I", Cond.fieldLink RX0 18 "HopMeet$Groups" "slotsRun" "I", Cond.methodLink RX0 25 yX2_place, Cond.instanceMethod yX2_place, Cond.selects RX2 yX2_place yX2_place, Cond.initialized RX2, Cond.code yX2_place cX2_place 5 (some .int), Cond.methodLink RX2 78 yX2_clockOf]
def wsX3_merge_r2 : List Cond := [Cond.instanceMethod yX2_clockOf, Cond.selects RX2 yX2_clockOf yX2_clockOf, Cond.code yX2_clockOf cX2_clockOf 3 (some .int), Cond.fieldLink RX2 11 "HopMeet$Scene" "users" "[[I", Cond.methodLink RX2 81 yX2_placeByClock, Cond.instanceMethod yX2_placeByClock, Cond.selects RX2 yX2_placeByClock yX2_placeByClock, Cond.code yX2_placeByClock cX2_placeByClock 5 (some .int), Cond.methodLink RX2 62 yX2_aim, Cond.instanceMethod yX2_aim, Cond.selects RX2 yX2_aim yX2_aim, Cond.code yX2_aim cX2_aim 6 (some .int), Cond.fieldLink RX2 23 "HopMeet$Scene" "channelCount" "I", Cond.fieldLink RX2 31 "HopMeet$Scene" "prime" "I", Cond.methodLink RX2 58 yX2_aimOfJumpAndStay, Cond.instanceMethod yX2_aimOfJumpAndStay, Cond.selects RX2 yX2_aimOfJumpAndStay yX2_aimOfJumpAndStay, Cond.code yX2_aimOfJumpAndStay cX2_aimOfJumpAndStay 7 (some .int), Cond.methodLink RX2 66 yX2_holds, Cond.static yX2_holds, Cond.code yX2_holds cX2_holds 2 (some .boolean), Cond.methodLink RX2 70 yJ6_bitCount_0f7a4, Cond.static yJ6_bitCount_0f7a4, Cond.initialized RJ6]
def wsX3_merge_r3 : List Cond := [Cond.code yJ6_bitCount_0f7a4 cJ6_bitCount_0f7a4 1 (some .int), Cond.constant RJ6 265 (1431655765), Cond.constant RJ6 266 (858993459), Cond.constant RJ6 267 (252645135), Cond.methodLink RX2 75 yX2_memberWithNumber, Cond.static yX2_memberWithNumber, Cond.code yX2_memberWithNumber cX2_memberWithNumber 4 (some .int), Cond.methodLink RX2 84 yX2_isShut, Cond.instanceMethod yX2_isShut, Cond.selects RX2 yX2_isShut yX2_isShut, Cond.code yX2_isShut cX2_isShut 8 (some .boolean), Cond.fieldLink RX2 37 "HopMeet$Scene" "spellCount" "I", Cond.fieldLink RX2 16 "HopMeet$Scene" "spells" "[[I", Cond.methodLink RX0 31 yX0_settle, Cond.instanceMethod yX0_settle, Cond.selects RX0 yX0_settle yX0_settle, Cond.code yX0_settle cX0_settle 3 none, Cond.methodLink RX0 35 yX0_join, Cond.instanceMethod yX0_join, Cond.selects RX0 yX0_join yX0_join, Cond.code yX0_join cX0_join 4 none]
def wsX3_merge : List Cond := .code yX3_merge cX3_merge 2 (some .int) :: ((wsX3_merge_r1 ++ (wsX3_merge_r2 ++ wsX3_merge_r3)) ++ wsX30 ++ wsX20 ++ wsX00)
def wsX3_part : List Cond := .code yX3_part cX3_part 2 (some .int) :: ([.fieldLink RX3 34 "HopMeet" "groups" "LHopMeet$Groups;", .fieldLink RX3 115 "HopMeet$Groups" "slotsRun" "I", .fieldLink RX3 10 "HopMeet" "now" "LHopMeet$Scene;", .fieldLink RX3 67 "HopMeet$Scene" "userCount" "I", .methodLink RX3 56 yX0_begin, .instanceMethod yX0_begin, .selects RX0 yX0_begin yX0_begin, .initialized RX0, .code yX0_begin cX0_begin 3 none, .fieldLink RX0 18 "HopMeet$Groups" "slotsRun" "I", .fieldLink RX0 22 "HopMeet$Groups" "userCount" "I", .fieldLink RX0 9 "HopMeet$Groups" "least" "[I"] ++ wsX30 ++ wsX00 ++ wsX20)
def wsX3_isImage : List Cond := .code yX3_isImage cX3_isImage 1 (some .boolean) :: ([])
def wsX3_keep : List Cond := .code yX3_keep cX3_keep 2 (some .int) :: ([.constant RX3 83 (-1000000001), .fieldLink RX3 23 "HopMeet" "images" "[LHopMeet$Scene;", .fieldLink RX3 10 "HopMeet" "now" "LHopMeet$Scene;", .fieldLink RX3 27 "HopMeet" "wasKept" "[Z", .fieldLink RX3 67 "HopMeet$Scene" "userCount" "I", .methodLink RX3 179 yX3_isImage, .static yX3_isImage, .initialized RX3, .code yX3_isImage cX3_isImage 1 (some .boolean), .methodLink RX3 182 yX2_become, .instanceMethod yX2_become, .selects RX2 yX2_become yX2_become, .initialized RX2, .code yX2_become cX2_become 3 none, .fieldLink RX2 23 "HopMeet$Scene" "channelCount" "I", .fieldLink RX2 31 "HopMeet$Scene" "prime" "I", .fieldLink RX2 34 "HopMeet$Scene" "userCount" "I", .fieldLink RX2 37 "HopMeet$Scene" "spellCount" "I", .fieldLink RX2 11 "HopMeet$Scene" "users" "[[I", .methodLink RX2 40 arraycopyName, .native arraycopyName, .static arraycopyName, .initialized "java/lang/System", .fieldLink RX2 16 "HopMeet$Scene" "spells" "[[I"] ++ wsX30 ++ wsX20)
def wsX3_goBack_r1 : List Cond := [Cond.constant RX3 83 (-1000000001), Cond.fieldLink RX3 27 "HopMeet" "wasKept" "[Z", Cond.constant RX3 102 (-1000000003), Cond.fieldLink RX3 10 "HopMeet" "now" "LHopMeet$Scene;", Cond.fieldLink RX3 23 "HopMeet" "images" "[LHopMeet$Scene;", Cond.fieldLink RX3 19 "HopMeet" "past" "LHopMeet$Past;", Cond.fieldLink RX3 34 "HopMeet" "groups" "LHopMeet$Groups;", Cond.fieldLink RX3 67 "HopMeet$Scene" "userCount" "I", Cond.methodLink RX3 179 yX3_isImage, Cond.static yX3_isImage, Cond.initialized RX3, Cond.code yX3_isImage cX3_isImage 1 (some .boolean), Cond.methodLink RX3 182 yX2_become, Cond.instanceMethod yX2_become, Cond.selects RX2 yX2_become yX2_become, Cond.initialized RX2, Cond.code yX2_become cX2_become 3 none, Cond.fieldLink RX2 23 "HopMeet$Scene" "channelCount" "I", Cond.fieldLink RX2 31 "HopMeet$Scene" "prime" "I", Cond.fieldLink RX2 34 "HopMeet$Scene" "userCount" "I", Cond.fieldLink RX2 37 "HopMeet$Scene" "spellCount" "I", Cond.fieldLink RX2 11 "HopMeet$Scene" "users" "[[I", Cond.methodLink RX2 40 arraycopyName, Cond.native arraycopyName]
def wsX3_goBack_r2 : List Cond := [Cond.static arraycopyName, Cond.initialized "java/lang/System", Cond.fieldLink RX2 16 "HopMeet$Scene" "spells" "[[I", Cond.methodLink RX3 53 yX1_forget, Cond.instanceMethod yX1_forget, Cond.selects RX1 yX1_forget yX1_forget, Cond.initialized RX1, Cond.code yX1_forget cX1_forget 1 none, Cond.fieldLink RX1 18 "HopMeet$Past" "next" "I", Cond.fieldLink RX1 22 "HopMeet$Past" "count" "I", Cond.methodLink RX3 56 yX0_begin, Cond.instanceMethod yX0_begin, Cond.selects RX0 yX0_begin yX0_begin, Cond.initialized RX0, Cond.code yX0_begin cX0_begin 3 none, Cond.fieldLink RX0 18 "HopMeet$Groups" "slotsRun" "I", Cond.fieldLink RX0 22 "HopMeet$Groups" "userCount" "I", Cond.fieldLink RX0 9 "HopMeet$Groups" "least" "[I"]
def wsX3_goBack : List Cond := .code yX3_goBack cX3_goBack 2 (some .int) :: ((wsX3_goBack_r1 ++ wsX3_goBack_r2) ++ wsX30 ++ wsX20 ++ wsX10 ++ wsX00)
def wsX4_isPrime : List Cond := .code yX4_isPrime cX4_isPrime 3 (some .boolean) :: ([])
def wsX4_layPrime : List Cond := .code yX4_layPrime cX4_layPrime 1 none :: ([.fieldLink RX4 7 "HopMeetModel" "now" "[I", .fieldLink RX4 35 "HopMeetModel" "prime" "I", .methodLink RX4 39 yX4_isPrime, .static yX4_isPrime, .initialized RX4, .code yX4_isPrime cX4_isPrime 3 (some .boolean)] ++ wsX40)
def wsX4_anew : List Cond := .code yX4_anew cX4_anew 2 none :: ([.fieldLink RX4 73 "HopMeetModel" "slots" "I", .fieldLink RX4 23 "HopMeetModel" "group" "[I"] ++ wsX40)
def wsX4_init_r1 : List Cond := [Cond.methodLink RX4 1 objectInit, Cond.instanceMethod objectInit, Cond.code objectInit ⟨#[0xb1]⟩ 1 none, Cond.arrayClass .int, Cond.fieldLink RX4 7 "HopMeetModel" "now" "[I", Cond.fieldLink RX4 13 "HopMeetModel" "back" "[I", Cond.fieldLink RX4 16 "HopMeetModel" "image" "[I", Cond.arrayClass .boolean, Cond.fieldLink RX4 19 "HopMeetModel" "isKept" "[Z", Cond.fieldLink RX4 23 "HopMeetModel" "group" "[I", Cond.fieldLink RX4 26 "HopMeetModel" "many" "[I", Cond.methodLink RX4 29 yX4_layPrime, Cond.instanceMethod yX4_layPrime, Cond.selects RX4 yX4_layPrime yX4_layPrime, Cond.initialized RX4, Cond.code yX4_layPrime cX4_layPrime 1 none, Cond.fieldLink RX4 35 "HopMeetModel" "prime" "I", Cond.methodLink RX4 39 yX4_isPrime, Cond.static yX4_isPrime, Cond.code yX4_isPrime cX4_isPrime 3 (some .boolean), Cond.methodLink RX4 32 yX4_anew, Cond.instanceMethod yX4_anew, Cond.selects RX4 yX4_anew yX4_anew, Cond.code yX4_anew cX4_anew 2 none]
def wsX4_init_r2 : List Cond := [Cond.fieldLink RX4 73 "HopMeetModel" "slots" "I"]
def wsX4_init : List Cond := .code yX4_init cX4_init 1 none :: ((wsX4_init_r1 ++ wsX4_init_r2) ++ wsX40)
def wsX4_in : List Cond := .code yX4_in cX4_in 3 (some .boolean) :: ([])
def wsX4_bring : List Cond := .code yX4_bring cX4_bring 6 none :: ([])
def wsX4_all : List Cond := .code yX4_all cX4_all 1 (some .int) :: ([.fieldLink RX4 7 "HopMeetModel" "now" "[I"] ++ wsX40)
def wsX4_isUser : List Cond := .code yX4_isUser cX4_isUser 2 (some .boolean) :: ([.fieldLink RX4 7 "HopMeetModel" "now" "[I", .methodLink RX4 43 yX4_in, .static yX4_in, .initialized RX4, .code yX4_in cX4_in 3 (some .boolean)] ++ wsX40)
def wsX4_areTwo : List Cond := .code yX4_areTwo cX4_areTwo 3 (some .boolean) :: ([.methodLink RX4 47 yX4_isUser, .instanceMethod yX4_isUser, .selects RX4 yX4_isUser yX4_isUser, .initialized RX4, .code yX4_isUser cX4_isUser 2 (some .boolean), .fieldLink RX4 7 "HopMeetModel" "now" "[I", .methodLink RX4 43 yX4_in, .static yX4_in, .code yX4_in cX4_in 3 (some .boolean)] ++ wsX40)
def wsX4_of : List Cond := .code yX4_of cX4_of 3 (some .int) :: ([.fieldLink RX4 7 "HopMeetModel" "now" "[I"] ++ wsX40)
def wsX4_points : List Cond := .code yX4_points cX4_points 10 (some .int) :: ([.fieldLink RX4 7 "HopMeetModel" "now" "[I", .fieldLink RX4 35 "HopMeetModel" "prime" "I", .methodLink RX4 50 yX4_of, .instanceMethod yX4_of, .selects RX4 yX4_of yX4_of, .initialized RX4, .code yX4_of cX4_of 3 (some .int)] ++ wsX40)
def wsX4_ones : List Cond := .code yX4_ones cX4_ones 3 (some .int) :: ([])
def wsX4_lands : List Cond := .code yX4_lands cX4_lands 7 (some .int) :: ([.methodLink RX4 50 yX4_of, .instanceMethod yX4_of, .selects RX4 yX4_of yX4_of, .initialized RX4, .code yX4_of cX4_of 3 (some .int), .fieldLink RX4 7 "HopMeetModel" "now" "[I", .methodLink RX4 54 yX4_points, .instanceMethod yX4_points, .selects RX4 yX4_points yX4_points, .code yX4_points cX4_points 10 (some .int), .fieldLink RX4 35 "HopMeetModel" "prime" "I", .methodLink RX4 57 yX4_ones, .static yX4_ones, .code yX4_ones cX4_ones 3 (some .int)] ++ wsX40)
def wsX4_isShut : List Cond := .code yX4_isShut cX4_isShut 8 (some .boolean) :: ([.fieldLink RX4 7 "HopMeetModel" "now" "[I", .methodLink RX4 43 yX4_in, .static yX4_in, .initialized RX4, .code yX4_in cX4_in 3 (some .boolean)] ++ wsX40)
def wsX4_whyNot_r1 : List Cond := [Cond.methodLink RX4 50 yX4_of, Cond.instanceMethod yX4_of, Cond.selects RX4 yX4_of yX4_of, Cond.initialized RX4, Cond.code yX4_of cX4_of 3 (some .int), Cond.fieldLink RX4 7 "HopMeetModel" "now" "[I", Cond.methodLink RX4 61 yX4_lands, Cond.instanceMethod yX4_lands, Cond.selects RX4 yX4_lands yX4_lands, Cond.code yX4_lands cX4_lands 7 (some .int), Cond.methodLink RX4 54 yX4_points, Cond.instanceMethod yX4_points, Cond.selects RX4 yX4_points yX4_points, Cond.code yX4_points cX4_points 10 (some .int), Cond.fieldLink RX4 35 "HopMeetModel" "prime" "I", Cond.methodLink RX4 57 yX4_ones, Cond.static yX4_ones, Cond.code yX4_ones cX4_ones 3 (some .int), Cond.methodLink RX4 64 yX4_isShut, Cond.instanceMethod yX4_isShut, Cond.selects RX4 yX4_isShut yX4_isShut, Cond.code yX4_isShut cX4_isShut 8 (some .boolean), Cond.methodLink RX4 43 yX4_in, Cond.static yX4_in]
def wsX4_whyNot_r2 : List Cond := [Cond.code yX4_in cX4_in 3 (some .boolean)]
def wsX4_whyNot : List Cond := .code yX4_whyNot cX4_whyNot 4 (some .int) :: ((wsX4_whyNot_r1 ++ wsX4_whyNot_r2) ++ wsX40)
def wsX4_place_r1 : List Cond := [Cond.methodLink RX4 67 yX4_whyNot, Cond.instanceMethod yX4_whyNot, Cond.selects RX4 yX4_whyNot yX4_whyNot, Cond.initialized RX4, Cond.code yX4_whyNot cX4_whyNot 4 (some .int), Cond.methodLink RX4 50 yX4_of, Cond.instanceMethod yX4_of, Cond.selects RX4 yX4_of yX4_of, Cond.code yX4_of cX4_of 3 (some .int), Cond.fieldLink RX4 7 "HopMeetModel" "now" "[I", Cond.methodLink RX4 61 yX4_lands, Cond.instanceMethod yX4_lands, Cond.selects RX4 yX4_lands yX4_lands, Cond.code yX4_lands cX4_lands 7 (some .int), Cond.methodLink RX4 54 yX4_points, Cond.instanceMethod yX4_points, Cond.selects RX4 yX4_points yX4_points, Cond.code yX4_points cX4_points 10 (some .int), Cond.fieldLink RX4 35 "HopMeetModel" "prime" "I", Cond.methodLink RX4 57 yX4_ones, Cond.static yX4_ones, Cond.code yX4_ones cX4_ones 3 (some .int), Cond.methodLink RX4 64 yX4_isShut, Cond.instanceMethod yX4_isShut]
def wsX4_place_r2 : List Cond := [Cond.selects RX4 yX4_isShut yX4_isShut, Cond.code yX4_isShut cX4_isShut 8 (some .boolean), Cond.methodLink RX4 43 yX4_in, Cond.static yX4_in, Cond.code yX4_in cX4_in 3 (some .boolean)]
def wsX4_place : List Cond := .code yX4_place cX4_place 3 (some .int) :: ((wsX4_place_r1 ++ wsX4_place_r2) ++ wsX40)
def wsX4_isMet_r1 : List Cond := [Cond.methodLink RX4 70 yX4_place, Cond.instanceMethod yX4_place, Cond.selects RX4 yX4_place yX4_place, Cond.initialized RX4, Cond.code yX4_place cX4_place 3 (some .int), Cond.methodLink RX4 67 yX4_whyNot, Cond.instanceMethod yX4_whyNot, Cond.selects RX4 yX4_whyNot yX4_whyNot, Cond.code yX4_whyNot cX4_whyNot 4 (some .int), Cond.methodLink RX4 50 yX4_of, Cond.instanceMethod yX4_of, Cond.selects RX4 yX4_of yX4_of, Cond.code yX4_of cX4_of 3 (some .int), Cond.fieldLink RX4 7 "HopMeetModel" "now" "[I", Cond.methodLink RX4 61 yX4_lands, Cond.instanceMethod yX4_lands, Cond.selects RX4 yX4_lands yX4_lands, Cond.code yX4_lands cX4_lands 7 (some .int), Cond.methodLink RX4 54 yX4_points, Cond.instanceMethod yX4_points, Cond.selects RX4 yX4_points yX4_points, Cond.code yX4_points cX4_points 10 (some .int), Cond.fieldLink RX4 35 "HopMeetModel" "prime" "I", Cond.methodLink RX4 57 yX4_ones]
def wsX4_isMet_r2 : List Cond := [Cond.static yX4_ones, Cond.code yX4_ones cX4_ones 3 (some .int), Cond.methodLink RX4 64 yX4_isShut, Cond.instanceMethod yX4_isShut, Cond.selects RX4 yX4_isShut yX4_isShut, Cond.code yX4_isShut cX4_isShut 8 (some .boolean), Cond.methodLink RX4 43 yX4_in, Cond.static yX4_in, Cond.code yX4_in cX4_in 3 (some .boolean)]
def wsX4_isMet : List Cond := .code yX4_isMet cX4_isMet 5 (some .boolean) :: ((wsX4_isMet_r1 ++ wsX4_isMet_r2) ++ wsX40)
def wsX4_note : List Cond := .code yX4_note cX4_note 1 none :: ([.fieldLink RX4 76 "HopMeetModel" "backs" "I", .fieldLink RX4 13 "HopMeetModel" "back" "[I", .fieldLink RX4 7 "HopMeetModel" "now" "[I", .methodLink RX4 79 yX4_bring, .static yX4_bring, .initialized RX4, .code yX4_bring cX4_bring 6 none, .methodLink RX4 32 yX4_anew, .instanceMethod yX4_anew, .selects RX4 yX4_anew yX4_anew, .code yX4_anew cX4_anew 2 none, .fieldLink RX4 73 "HopMeetModel" "slots" "I", .fieldLink RX4 23 "HopMeetModel" "group" "[I"] ++ wsX40)
def wsX4_channels : List Cond := .code yX4_channels cX4_channels 2 (some .int) :: ([.constant RX4 83 (-1000000002), .fieldLink RX4 7 "HopMeetModel" "now" "[I", .fieldLink RX4 76 "HopMeetModel" "backs" "I", .fieldLink RX4 35 "HopMeetModel" "prime" "I", .methodLink RX4 43 yX4_in, .static yX4_in, .initialized RX4, .code yX4_in cX4_in 3 (some .boolean), .methodLink RX4 29 yX4_layPrime, .instanceMethod yX4_layPrime, .selects RX4 yX4_layPrime yX4_layPrime, .code yX4_layPrime cX4_layPrime 1 none, .methodLink RX4 39 yX4_isPrime, .static yX4_isPrime, .code yX4_isPrime cX4_isPrime 3 (some .boolean), .methodLink RX4 32 yX4_anew, .instanceMethod yX4_anew, .selects RX4 yX4_anew yX4_anew, .code yX4_anew cX4_anew 2 none, .fieldLink RX4 73 "HopMeetModel" "slots" "I", .fieldLink RX4 23 "HopMeetModel" "group" "[I"] ++ wsX40)
def wsX4_isBound : List Cond := .code yX4_isBound cX4_isBound 2 (some .boolean) :: ([.methodLink RX4 43 yX4_in, .static yX4_in, .initialized RX4, .code yX4_in cX4_in 3 (some .boolean)])
def wsX4_user_r1 : List Cond := [Cond.constant RX4 83 (-1000000002), Cond.fieldLink RX4 7 "HopMeetModel" "now" "[I", Cond.constant RX4 88 (-1000000004), Cond.methodLink RX4 84 yX4_isBound, Cond.static yX4_isBound, Cond.initialized RX4, Cond.code yX4_isBound cX4_isBound 2 (some .boolean), Cond.methodLink RX4 43 yX4_in, Cond.static yX4_in, Cond.code yX4_in cX4_in 3 (some .boolean), Cond.methodLink RX4 89 yX4_note, Cond.instanceMethod yX4_note, Cond.selects RX4 yX4_note yX4_note, Cond.code yX4_note cX4_note 1 none, Cond.fieldLink RX4 76 "HopMeetModel" "backs" "I", Cond.fieldLink RX4 13 "HopMeetModel" "back" "[I", Cond.methodLink RX4 79 yX4_bring, Cond.static yX4_bring, Cond.code yX4_bring cX4_bring 6 none, Cond.methodLink RX4 32 yX4_anew, Cond.instanceMethod yX4_anew, Cond.selects RX4 yX4_anew yX4_anew, Cond.code yX4_anew cX4_anew 2 none, Cond.fieldLink RX4 73 "HopMeetModel" "slots" "I"]
def wsX4_user_r2 : List Cond := [Cond.fieldLink RX4 23 "HopMeetModel" "group" "[I", Cond.methodLink RX4 92 yX4_all, Cond.instanceMethod yX4_all, Cond.selects RX4 yX4_all yX4_all, Cond.code yX4_all cX4_all 1 (some .int)]
def wsX4_user : List Cond := .code yX4_user cX4_user 6 (some .int) :: ((wsX4_user_r1 ++ wsX4_user_r2) ++ wsX40)
def wsX4_becomes : List Cond := .code yX4_becomes cX4_becomes 5 (some .int) :: ([.fieldLink RX4 7 "HopMeetModel" "now" "[I", .methodLink RX4 89 yX4_note, .instanceMethod yX4_note, .selects RX4 yX4_note yX4_note, .initialized RX4, .code yX4_note cX4_note 1 none, .fieldLink RX4 76 "HopMeetModel" "backs" "I", .fieldLink RX4 13 "HopMeetModel" "back" "[I", .methodLink RX4 79 yX4_bring, .static yX4_bring, .code yX4_bring cX4_bring 6 none, .methodLink RX4 32 yX4_anew, .instanceMethod yX4_anew, .selects RX4 yX4_anew yX4_anew, .code yX4_anew cX4_anew 2 none, .fieldLink RX4 73 "HopMeetModel" "slots" "I", .fieldLink RX4 23 "HopMeetModel" "group" "[I", .methodLink RX4 50 yX4_of, .instanceMethod yX4_of, .selects RX4 yX4_of yX4_of, .code yX4_of cX4_of 3 (some .int)] ++ wsX40)
def wsX4_open_r1 : List Cond := [Cond.constant RX4 96 (-1000000001), Cond.constant RX4 83 (-1000000002), Cond.methodLink RX4 47 yX4_isUser, Cond.instanceMethod yX4_isUser, Cond.selects RX4 yX4_isUser yX4_isUser, Cond.initialized RX4, Cond.code yX4_isUser cX4_isUser 2 (some .boolean), Cond.fieldLink RX4 7 "HopMeetModel" "now" "[I", Cond.methodLink RX4 43 yX4_in, Cond.static yX4_in, Cond.code yX4_in cX4_in 3 (some .boolean), Cond.methodLink RX4 92 yX4_all, Cond.instanceMethod yX4_all, Cond.selects RX4 yX4_all yX4_all, Cond.code yX4_all cX4_all 1 (some .int), Cond.methodLink RX4 97 yX4_becomes, Cond.instanceMethod yX4_becomes, Cond.selects RX4 yX4_becomes yX4_becomes, Cond.code yX4_becomes cX4_becomes 5 (some .int), Cond.methodLink RX4 89 yX4_note, Cond.instanceMethod yX4_note, Cond.selects RX4 yX4_note yX4_note, Cond.code yX4_note cX4_note 1 none, Cond.fieldLink RX4 76 "HopMeetModel" "backs" "I"]
def wsX4_open_r2 : List Cond := [Cond.fieldLink RX4 13 "HopMeetModel" "back" "[I", Cond.methodLink RX4 79 yX4_bring, Cond.static yX4_bring, Cond.code yX4_bring cX4_bring 6 none, Cond.methodLink RX4 32 yX4_anew, Cond.instanceMethod yX4_anew, Cond.selects RX4 yX4_anew yX4_anew, Cond.code yX4_anew cX4_anew 2 none, Cond.fieldLink RX4 73 "HopMeetModel" "slots" "I", Cond.fieldLink RX4 23 "HopMeetModel" "group" "[I", Cond.methodLink RX4 50 yX4_of, Cond.instanceMethod yX4_of, Cond.selects RX4 yX4_of yX4_of, Cond.code yX4_of cX4_of 3 (some .int)]
def wsX4_open : List Cond := .code yX4_open cX4_open 3 (some .int) :: ((wsX4_open_r1 ++ wsX4_open_r2) ++ wsX40)
def wsX4_set_r1 : List Cond := [Cond.constant RX4 96 (-1000000001), Cond.constant RX4 83 (-1000000002), Cond.methodLink RX4 47 yX4_isUser, Cond.instanceMethod yX4_isUser, Cond.selects RX4 yX4_isUser yX4_isUser, Cond.initialized RX4, Cond.code yX4_isUser cX4_isUser 2 (some .boolean), Cond.fieldLink RX4 7 "HopMeetModel" "now" "[I", Cond.methodLink RX4 43 yX4_in, Cond.static yX4_in, Cond.code yX4_in cX4_in 3 (some .boolean), Cond.methodLink RX4 84 yX4_isBound, Cond.static yX4_isBound, Cond.code yX4_isBound cX4_isBound 2 (some .boolean), Cond.methodLink RX4 97 yX4_becomes, Cond.instanceMethod yX4_becomes, Cond.selects RX4 yX4_becomes yX4_becomes, Cond.code yX4_becomes cX4_becomes 5 (some .int), Cond.methodLink RX4 89 yX4_note, Cond.instanceMethod yX4_note, Cond.selects RX4 yX4_note yX4_note, Cond.code yX4_note cX4_note 1 none, Cond.fieldLink RX4 76 "HopMeetModel" "backs" "I", Cond.fieldLink RX4 13 "HopMeetModel" "back" "[I"]
def wsX4_set_r2 : List Cond := [Cond.methodLink RX4 79 yX4_bring, Cond.static yX4_bring, Cond.code yX4_bring cX4_bring 6 none, Cond.methodLink RX4 32 yX4_anew, Cond.instanceMethod yX4_anew, Cond.selects RX4 yX4_anew yX4_anew, Cond.code yX4_anew cX4_anew 2 none, Cond.fieldLink RX4 73 "HopMeetModel" "slots" "I", Cond.fieldLink RX4 23 "HopMeetModel" "group" "[I", Cond.methodLink RX4 50 yX4_of, Cond.instanceMethod yX4_of, Cond.selects RX4 yX4_of yX4_of, Cond.code yX4_of cX4_of 3 (some .int)]
def wsX4_set : List Cond := .code yX4_set cX4_set 4 (some .int) :: ((wsX4_set_r1 ++ wsX4_set_r2) ++ wsX40)
def wsX4_shut_r1 : List Cond := [Cond.fieldLink RX4 7 "HopMeetModel" "now" "[I", Cond.constant RX4 96 (-1000000001), Cond.constant RX4 83 (-1000000002), Cond.constant RX4 88 (-1000000004), Cond.methodLink RX4 47 yX4_isUser, Cond.instanceMethod yX4_isUser, Cond.selects RX4 yX4_isUser yX4_isUser, Cond.initialized RX4, Cond.code yX4_isUser cX4_isUser 2 (some .boolean), Cond.methodLink RX4 43 yX4_in, Cond.static yX4_in, Cond.code yX4_in cX4_in 3 (some .boolean), Cond.methodLink RX4 89 yX4_note, Cond.instanceMethod yX4_note, Cond.selects RX4 yX4_note yX4_note, Cond.code yX4_note cX4_note 1 none, Cond.fieldLink RX4 76 "HopMeetModel" "backs" "I", Cond.fieldLink RX4 13 "HopMeetModel" "back" "[I", Cond.methodLink RX4 79 yX4_bring, Cond.static yX4_bring, Cond.code yX4_bring cX4_bring 6 none, Cond.methodLink RX4 32 yX4_anew, Cond.instanceMethod yX4_anew, Cond.selects RX4 yX4_anew yX4_anew]
def wsX4_shut_r2 : List Cond := [Cond.code yX4_anew cX4_anew 2 none, Cond.fieldLink RX4 73 "HopMeetModel" "slots" "I", Cond.fieldLink RX4 23 "HopMeetModel" "group" "[I"]
def wsX4_shut : List Cond := .code yX4_shut cX4_shut 6 (some .int) :: ((wsX4_shut_r1 ++ wsX4_shut_r2) ++ wsX40)
def wsX4_drawn : List Cond := .code yX4_drawn cX4_drawn 2 (some .int) :: ([.fieldLink RX4 101 "HopMeetModel" "lots" "J", .constantLong RX4 105 (16807), .constantLong RX4 107 (2147483647)] ++ wsX40)
def wsX4_common : List Cond := .code yX4_common cX4_common 3 (some .int) :: ([.fieldLink RX4 7 "HopMeetModel" "now" "[I", .methodLink RX4 92 yX4_all, .instanceMethod yX4_all, .selects RX4 yX4_all yX4_all, .initialized RX4, .code yX4_all cX4_all 1 (some .int), .methodLink RX4 50 yX4_of, .instanceMethod yX4_of, .selects RX4 yX4_of yX4_of, .code yX4_of cX4_of 3 (some .int)] ++ wsX40)
def wsX4_drift_r1 : List Cond := [Cond.constant RX4 109 (999999), Cond.constant RX4 83 (-1000000002), Cond.fieldLink RX4 7 "HopMeetModel" "now" "[I", Cond.constant RX4 110 (-1000000003), Cond.fieldLink RX4 101 "HopMeetModel" "lots" "J", Cond.methodLink RX4 43 yX4_in, Cond.static yX4_in, Cond.initialized RX4, Cond.code yX4_in cX4_in 3 (some .boolean), Cond.methodLink RX4 89 yX4_note, Cond.instanceMethod yX4_note, Cond.selects RX4 yX4_note yX4_note, Cond.code yX4_note cX4_note 1 none, Cond.fieldLink RX4 76 "HopMeetModel" "backs" "I", Cond.fieldLink RX4 13 "HopMeetModel" "back" "[I", Cond.methodLink RX4 79 yX4_bring, Cond.static yX4_bring, Cond.code yX4_bring cX4_bring 6 none, Cond.methodLink RX4 32 yX4_anew, Cond.instanceMethod yX4_anew, Cond.selects RX4 yX4_anew yX4_anew, Cond.code yX4_anew cX4_anew 2 none, Cond.fieldLink RX4 73 "HopMeetModel" "slots" "I", Cond.fieldLink RX4 23 "HopMeetModel" "group" "[I"]
def wsX4_drift_r2 : List Cond := [Cond.methodLink RX4 111 yX4_drawn, Cond.instanceMethod yX4_drawn, Cond.selects RX4 yX4_drawn yX4_drawn, Cond.code yX4_drawn cX4_drawn 2 (some .int), Cond.constantLong RX4 105 (16807), Cond.constantLong RX4 107 (2147483647), Cond.methodLink RX4 114 yX4_common, Cond.instanceMethod yX4_common, Cond.selects RX4 yX4_common yX4_common, Cond.code yX4_common cX4_common 3 (some .int), Cond.methodLink RX4 92 yX4_all, Cond.instanceMethod yX4_all, Cond.selects RX4 yX4_all yX4_all, Cond.code yX4_all cX4_all 1 (some .int), Cond.methodLink RX4 50 yX4_of, Cond.instanceMethod yX4_of, Cond.selects RX4 yX4_of yX4_of, Cond.code yX4_of cX4_of 3 (some .int)]
def wsX4_drift : List Cond := .code yX4_drift cX4_drift 4 (some .int) :: ((wsX4_drift_r1 ++ wsX4_drift_r2) ++ wsX40)
def wsX4_undo : List Cond := .code yX4_undo cX4_undo 1 (some .int) :: ([.fieldLink RX4 76 "HopMeetModel" "backs" "I", .constant RX4 110 (-1000000003), .fieldLink RX4 13 "HopMeetModel" "back" "[I", .fieldLink RX4 7 "HopMeetModel" "now" "[I", .methodLink RX4 79 yX4_bring, .static yX4_bring, .initialized RX4, .code yX4_bring cX4_bring 6 none, .methodLink RX4 32 yX4_anew, .instanceMethod yX4_anew, .selects RX4 yX4_anew yX4_anew, .code yX4_anew cX4_anew 2 none, .fieldLink RX4 73 "HopMeetModel" "slots" "I", .fieldLink RX4 23 "HopMeetModel" "group" "[I"] ++ wsX40)
def wsX4_groups : List Cond := .code yX4_groups cX4_groups 3 (some .int) :: ([.fieldLink RX4 7 "HopMeetModel" "now" "[I", .fieldLink RX4 23 "HopMeetModel" "group" "[I"] ++ wsX40)
def wsX4_told : List Cond := .code yX4_told cX4_told 2 (some .int) :: ([.fieldLink RX4 7 "HopMeetModel" "now" "[I", .fieldLink RX4 35 "HopMeetModel" "prime" "I", .fieldLink RX4 73 "HopMeetModel" "slots" "I", .fieldLink RX4 76 "HopMeetModel" "backs" "I", .constant RX4 83 (-1000000002), .methodLink RX4 114 yX4_common, .instanceMethod yX4_common, .selects RX4 yX4_common yX4_common, .initialized RX4, .code yX4_common cX4_common 3 (some .int), .methodLink RX4 92 yX4_all, .instanceMethod yX4_all, .selects RX4 yX4_all yX4_all, .code yX4_all cX4_all 1 (some .int), .methodLink RX4 50 yX4_of, .instanceMethod yX4_of, .selects RX4 yX4_of yX4_of, .code yX4_of cX4_of 3 (some .int), .methodLink RX4 117 yX4_groups, .instanceMethod yX4_groups, .selects RX4 yX4_groups yX4_groups, .code yX4_groups cX4_groups 3 (some .int), .fieldLink RX4 23 "HopMeetModel" "group" "[I"] ++ wsX40)
def wsX4_userOf : List Cond := .code yX4_userOf cX4_userOf 5 (some .int) :: ([.constant RX4 96 (-1000000001), .constant RX4 83 (-1000000002), .fieldLink RX4 7 "HopMeetModel" "now" "[I", .fieldLink RX4 23 "HopMeetModel" "group" "[I", .methodLink RX4 47 yX4_isUser, .instanceMethod yX4_isUser, .selects RX4 yX4_isUser yX4_isUser, .initialized RX4, .code yX4_isUser cX4_isUser 2 (some .boolean), .methodLink RX4 43 yX4_in, .static yX4_in, .code yX4_in cX4_in 3 (some .boolean), .methodLink RX4 50 yX4_of, .instanceMethod yX4_of, .selects RX4 yX4_of yX4_of, .code yX4_of cX4_of 3 (some .int)] ++ wsX40)
def wsX4_pointsAt : List Cond := .code yX4_pointsAt cX4_pointsAt 3 (some .int) :: ([.constant RX4 96 (-1000000001), .constant RX4 83 (-1000000002), .methodLink RX4 47 yX4_isUser, .instanceMethod yX4_isUser, .selects RX4 yX4_isUser yX4_isUser, .initialized RX4, .code yX4_isUser cX4_isUser 2 (some .boolean), .fieldLink RX4 7 "HopMeetModel" "now" "[I", .methodLink RX4 43 yX4_in, .static yX4_in, .code yX4_in cX4_in 3 (some .boolean), .methodLink RX4 50 yX4_of, .instanceMethod yX4_of, .selects RX4 yX4_of yX4_of, .code yX4_of cX4_of 3 (some .int), .methodLink RX4 54 yX4_points, .instanceMethod yX4_points, .selects RX4 yX4_points yX4_points, .code yX4_points cX4_points 10 (some .int), .fieldLink RX4 35 "HopMeetModel" "prime" "I"] ++ wsX40)
def wsX4_on_r1 : List Cond := [Cond.constant RX4 96 (-1000000001), Cond.constant RX4 83 (-1000000002), Cond.methodLink RX4 47 yX4_isUser, Cond.instanceMethod yX4_isUser, Cond.selects RX4 yX4_isUser yX4_isUser, Cond.initialized RX4, Cond.code yX4_isUser cX4_isUser 2 (some .boolean), Cond.fieldLink RX4 7 "HopMeetModel" "now" "[I", Cond.methodLink RX4 43 yX4_in, Cond.static yX4_in, Cond.code yX4_in cX4_in 3 (some .boolean), Cond.methodLink RX4 70 yX4_place, Cond.instanceMethod yX4_place, Cond.selects RX4 yX4_place yX4_place, Cond.code yX4_place cX4_place 3 (some .int), Cond.methodLink RX4 67 yX4_whyNot, Cond.instanceMethod yX4_whyNot, Cond.selects RX4 yX4_whyNot yX4_whyNot, Cond.code yX4_whyNot cX4_whyNot 4 (some .int), Cond.methodLink RX4 50 yX4_of, Cond.instanceMethod yX4_of, Cond.selects RX4 yX4_of yX4_of, Cond.code yX4_of cX4_of 3 (some .int), Cond.methodLink RX4 61 yX4_lands]
def wsX4_on_r2 : List Cond := [Cond.instanceMethod yX4_lands, Cond.selects RX4 yX4_lands yX4_lands, Cond.code yX4_lands cX4_lands 7 (some .int), Cond.methodLink RX4 54 yX4_points, Cond.instanceMethod yX4_points, Cond.selects RX4 yX4_points yX4_points, Cond.code yX4_points cX4_points 10 (some .int), Cond.fieldLink RX4 35 "HopMeetModel" "prime" "I", Cond.methodLink RX4 57 yX4_ones, Cond.static yX4_ones, Cond.code yX4_ones cX4_ones 3 (some .int), Cond.methodLink RX4 64 yX4_isShut, Cond.instanceMethod yX4_isShut, Cond.selects RX4 yX4_isShut yX4_isShut, Cond.code yX4_isShut cX4_isShut 8 (some .boolean)]
def wsX4_on : List Cond := .code yX4_on cX4_on 3 (some .int) :: ((wsX4_on_r1 ++ wsX4_on_r2) ++ wsX40)
def wsX4_why_r1 : List Cond := [Cond.constant RX4 96 (-1000000001), Cond.constant RX4 83 (-1000000002), Cond.methodLink RX4 47 yX4_isUser, Cond.instanceMethod yX4_isUser, Cond.selects RX4 yX4_isUser yX4_isUser, Cond.initialized RX4, Cond.code yX4_isUser cX4_isUser 2 (some .boolean), Cond.fieldLink RX4 7 "HopMeetModel" "now" "[I", Cond.methodLink RX4 43 yX4_in, Cond.static yX4_in, Cond.code yX4_in cX4_in 3 (some .boolean), Cond.methodLink RX4 67 yX4_whyNot, Cond.instanceMethod yX4_whyNot, Cond.selects RX4 yX4_whyNot yX4_whyNot, Cond.code yX4_whyNot cX4_whyNot 4 (some .int), Cond.methodLink RX4 50 yX4_of, Cond.instanceMethod yX4_of, Cond.selects RX4 yX4_of yX4_of, Cond.code yX4_of cX4_of 3 (some .int), Cond.methodLink RX4 61 yX4_lands, Cond.instanceMethod yX4_lands, Cond.selects RX4 yX4_lands yX4_lands, Cond.code yX4_lands cX4_lands 7 (some .int), Cond.methodLink RX4 54 yX4_points]
def wsX4_why_r2 : List Cond := [Cond.instanceMethod yX4_points, Cond.selects RX4 yX4_points yX4_points, Cond.code yX4_points cX4_points 10 (some .int), Cond.fieldLink RX4 35 "HopMeetModel" "prime" "I", Cond.methodLink RX4 57 yX4_ones, Cond.static yX4_ones, Cond.code yX4_ones cX4_ones 3 (some .int), Cond.methodLink RX4 64 yX4_isShut, Cond.instanceMethod yX4_isShut, Cond.selects RX4 yX4_isShut yX4_isShut, Cond.code yX4_isShut cX4_isShut 8 (some .boolean)]
def wsX4_why : List Cond := .code yX4_why cX4_why 3 (some .int) :: ((wsX4_why_r1 ++ wsX4_why_r2) ++ wsX40)
def wsX4_first_r1 : List Cond := [Cond.constant RX4 96 (-1000000001), Cond.methodLink RX4 120 yX4_areTwo, Cond.instanceMethod yX4_areTwo, Cond.selects RX4 yX4_areTwo yX4_areTwo, Cond.initialized RX4, Cond.code yX4_areTwo cX4_areTwo 3 (some .boolean), Cond.methodLink RX4 47 yX4_isUser, Cond.instanceMethod yX4_isUser, Cond.selects RX4 yX4_isUser yX4_isUser, Cond.code yX4_isUser cX4_isUser 2 (some .boolean), Cond.fieldLink RX4 7 "HopMeetModel" "now" "[I", Cond.methodLink RX4 43 yX4_in, Cond.static yX4_in, Cond.code yX4_in cX4_in 3 (some .boolean), Cond.methodLink RX4 123 yX4_isMet, Cond.instanceMethod yX4_isMet, Cond.selects RX4 yX4_isMet yX4_isMet, Cond.code yX4_isMet cX4_isMet 5 (some .boolean), Cond.methodLink RX4 70 yX4_place, Cond.instanceMethod yX4_place, Cond.selects RX4 yX4_place yX4_place, Cond.code yX4_place cX4_place 3 (some .int), Cond.methodLink RX4 67 yX4_whyNot, Cond.instanceMethod yX4_whyNot]
def wsX4_first_r2 : List Cond := [Cond.selects RX4 yX4_whyNot yX4_whyNot, Cond.code yX4_whyNot cX4_whyNot 4 (some .int), Cond.methodLink RX4 50 yX4_of, Cond.instanceMethod yX4_of, Cond.selects RX4 yX4_of yX4_of, Cond.code yX4_of cX4_of 3 (some .int), Cond.methodLink RX4 61 yX4_lands, Cond.instanceMethod yX4_lands, Cond.selects RX4 yX4_lands yX4_lands, Cond.code yX4_lands cX4_lands 7 (some .int), Cond.methodLink RX4 54 yX4_points, Cond.instanceMethod yX4_points, Cond.selects RX4 yX4_points yX4_points, Cond.code yX4_points cX4_points 10 (some .int), Cond.fieldLink RX4 35 "HopMeetModel" "prime" "I", Cond.methodLink RX4 57 yX4_ones, Cond.static yX4_ones, Cond.code yX4_ones cX4_ones 3 (some .int), Cond.methodLink RX4 64 yX4_isShut, Cond.instanceMethod yX4_isShut, Cond.selects RX4 yX4_isShut yX4_isShut, Cond.code yX4_isShut cX4_isShut 8 (some .boolean)]
def wsX4_first : List Cond := .code yX4_first cX4_first 4 (some .int) :: ((wsX4_first_r1 ++ wsX4_first_r2) ++ wsX40)
def wsX4_worstOf : List Cond := .code yX4_worstOf cX4_worstOf 7 (some .int) :: ([.constant RX4 126 (99999), .methodLink RX4 50 yX4_of, .instanceMethod yX4_of, .selects RX4 yX4_of yX4_of, .initialized RX4, .code yX4_of cX4_of 3 (some .int), .fieldLink RX4 7 "HopMeetModel" "now" "[I", .methodLink RX4 61 yX4_lands, .instanceMethod yX4_lands, .selects RX4 yX4_lands yX4_lands, .code yX4_lands cX4_lands 7 (some .int), .methodLink RX4 54 yX4_points, .instanceMethod yX4_points, .selects RX4 yX4_points yX4_points, .code yX4_points cX4_points 10 (some .int), .fieldLink RX4 35 "HopMeetModel" "prime" "I", .methodLink RX4 57 yX4_ones, .static yX4_ones, .code yX4_ones cX4_ones 3 (some .int)] ++ wsX40)
def wsX4_worst_r1 : List Cond := [Cond.constant RX4 96 (-1000000001), Cond.constant RX4 83 (-1000000002), Cond.methodLink RX4 120 yX4_areTwo, Cond.instanceMethod yX4_areTwo, Cond.selects RX4 yX4_areTwo yX4_areTwo, Cond.initialized RX4, Cond.code yX4_areTwo cX4_areTwo 3 (some .boolean), Cond.methodLink RX4 47 yX4_isUser, Cond.instanceMethod yX4_isUser, Cond.selects RX4 yX4_isUser yX4_isUser, Cond.code yX4_isUser cX4_isUser 2 (some .boolean), Cond.fieldLink RX4 7 "HopMeetModel" "now" "[I", Cond.methodLink RX4 43 yX4_in, Cond.static yX4_in, Cond.code yX4_in cX4_in 3 (some .boolean), Cond.methodLink RX4 127 yX4_worstOf, Cond.instanceMethod yX4_worstOf, Cond.selects RX4 yX4_worstOf yX4_worstOf, Cond.code yX4_worstOf cX4_worstOf 7 (some .int), Cond.constant RX4 126 (99999), Cond.methodLink RX4 50 yX4_of, Cond.instanceMethod yX4_of, Cond.selects RX4 yX4_of yX4_of, Cond.code yX4_of cX4_of 3 (some .int)]
def wsX4_worst_r2 : List Cond := [Cond.methodLink RX4 61 yX4_lands, Cond.instanceMethod yX4_lands, Cond.selects RX4 yX4_lands yX4_lands, Cond.code yX4_lands cX4_lands 7 (some .int), Cond.methodLink RX4 54 yX4_points, Cond.instanceMethod yX4_points, Cond.selects RX4 yX4_points yX4_points, Cond.code yX4_points cX4_points 10 (some .int), Cond.fieldLink RX4 35 "HopMeetModel" "prime" "I", Cond.methodLink RX4 57 yX4_ones, Cond.static yX4_ones, Cond.code yX4_ones cX4_ones 3 (some .int)]
def wsX4_worst : List Cond := .code yX4_worst cX4_worst 4 (some .int) :: ((wsX4_worst_r1 ++ wsX4_worst_r2) ++ wsX40)
def wsX4_bound_r1 : List Cond := [Cond.constant RX4 96 (-1000000001), Cond.constant RX4 83 (-1000000002), Cond.methodLink RX4 120 yX4_areTwo, Cond.instanceMethod yX4_areTwo, Cond.selects RX4 yX4_areTwo yX4_areTwo, Cond.initialized RX4, Cond.code yX4_areTwo cX4_areTwo 3 (some .boolean), Cond.methodLink RX4 47 yX4_isUser, Cond.instanceMethod yX4_isUser, Cond.selects RX4 yX4_isUser yX4_isUser, Cond.code yX4_isUser cX4_isUser 2 (some .boolean), Cond.fieldLink RX4 7 "HopMeetModel" "now" "[I", Cond.methodLink RX4 43 yX4_in, Cond.static yX4_in, Cond.code yX4_in cX4_in 3 (some .boolean), Cond.methodLink RX4 127 yX4_worstOf, Cond.instanceMethod yX4_worstOf, Cond.selects RX4 yX4_worstOf yX4_worstOf, Cond.code yX4_worstOf cX4_worstOf 7 (some .int), Cond.constant RX4 126 (99999), Cond.methodLink RX4 50 yX4_of, Cond.instanceMethod yX4_of, Cond.selects RX4 yX4_of yX4_of, Cond.code yX4_of cX4_of 3 (some .int)]
def wsX4_bound_r2 : List Cond := [Cond.methodLink RX4 61 yX4_lands, Cond.instanceMethod yX4_lands, Cond.selects RX4 yX4_lands yX4_lands, Cond.code yX4_lands cX4_lands 7 (some .int), Cond.methodLink RX4 54 yX4_points, Cond.instanceMethod yX4_points, Cond.selects RX4 yX4_points yX4_points, Cond.code yX4_points cX4_points 10 (some .int), Cond.fieldLink RX4 35 "HopMeetModel" "prime" "I", Cond.methodLink RX4 57 yX4_ones, Cond.static yX4_ones, Cond.code yX4_ones cX4_ones 3 (some .int)]
def wsX4_bound : List Cond := .code yX4_bound cX4_bound 5 (some .int) :: ((wsX4_bound_r1 ++ wsX4_bound_r2) ++ wsX40)
def wsX4_together_r1 : List Cond := [Cond.constant RX4 96 (-1000000001), Cond.constant RX4 83 (-1000000002), Cond.methodLink RX4 120 yX4_areTwo, Cond.instanceMethod yX4_areTwo, Cond.selects RX4 yX4_areTwo yX4_areTwo, Cond.initialized RX4, Cond.code yX4_areTwo cX4_areTwo 3 (some .boolean), Cond.methodLink RX4 47 yX4_isUser, Cond.instanceMethod yX4_isUser, Cond.selects RX4 yX4_isUser yX4_isUser, Cond.code yX4_isUser cX4_isUser 2 (some .boolean), Cond.fieldLink RX4 7 "HopMeetModel" "now" "[I", Cond.methodLink RX4 43 yX4_in, Cond.static yX4_in, Cond.code yX4_in cX4_in 3 (some .boolean), Cond.methodLink RX4 123 yX4_isMet, Cond.instanceMethod yX4_isMet, Cond.selects RX4 yX4_isMet yX4_isMet, Cond.code yX4_isMet cX4_isMet 5 (some .boolean), Cond.methodLink RX4 70 yX4_place, Cond.instanceMethod yX4_place, Cond.selects RX4 yX4_place yX4_place, Cond.code yX4_place cX4_place 3 (some .int), Cond.methodLink RX4 67 yX4_whyNot]
def wsX4_together_r2 : List Cond := [Cond.instanceMethod yX4_whyNot, Cond.selects RX4 yX4_whyNot yX4_whyNot, Cond.code yX4_whyNot cX4_whyNot 4 (some .int), Cond.methodLink RX4 50 yX4_of, Cond.instanceMethod yX4_of, Cond.selects RX4 yX4_of yX4_of, Cond.code yX4_of cX4_of 3 (some .int), Cond.methodLink RX4 61 yX4_lands, Cond.instanceMethod yX4_lands, Cond.selects RX4 yX4_lands yX4_lands, Cond.code yX4_lands cX4_lands 7 (some .int), Cond.methodLink RX4 54 yX4_points, Cond.instanceMethod yX4_points, Cond.selects RX4 yX4_points yX4_points, Cond.code yX4_points cX4_points 10 (some .int), Cond.fieldLink RX4 35 "HopMeetModel" "prime" "I", Cond.methodLink RX4 57 yX4_ones, Cond.static yX4_ones, Cond.code yX4_ones cX4_ones 3 (some .int), Cond.methodLink RX4 64 yX4_isShut, Cond.instanceMethod yX4_isShut, Cond.selects RX4 yX4_isShut yX4_isShut, Cond.code yX4_isShut cX4_isShut 8 (some .boolean)]
def wsX4_together : List Cond := .code yX4_together cX4_together 6 (some .int) :: ((wsX4_together_r1 ++ wsX4_together_r2) ++ wsX40)
def wsX4_even_r1 : List Cond := [Cond.constant RX4 96 (-1000000001), Cond.constant RX4 83 (-1000000002), Cond.fieldLink RX4 26 "HopMeetModel" "many" "[I", Cond.fieldLink RX4 7 "HopMeetModel" "now" "[I", Cond.methodLink RX4 47 yX4_isUser, Cond.instanceMethod yX4_isUser, Cond.selects RX4 yX4_isUser yX4_isUser, Cond.initialized RX4, Cond.code yX4_isUser cX4_isUser 2 (some .boolean), Cond.methodLink RX4 43 yX4_in, Cond.static yX4_in, Cond.code yX4_in cX4_in 3 (some .boolean), Cond.methodLink RX4 50 yX4_of, Cond.instanceMethod yX4_of, Cond.selects RX4 yX4_of yX4_of, Cond.code yX4_of cX4_of 3 (some .int), Cond.methodLink RX4 61 yX4_lands, Cond.instanceMethod yX4_lands, Cond.selects RX4 yX4_lands yX4_lands, Cond.code yX4_lands cX4_lands 7 (some .int), Cond.methodLink RX4 54 yX4_points, Cond.instanceMethod yX4_points, Cond.selects RX4 yX4_points yX4_points, Cond.code yX4_points cX4_points 10 (some .int)]
def wsX4_even_r2 : List Cond := [Cond.fieldLink RX4 35 "HopMeetModel" "prime" "I", Cond.methodLink RX4 57 yX4_ones, Cond.static yX4_ones, Cond.code yX4_ones cX4_ones 3 (some .int)]
def wsX4_even : List Cond := .code yX4_even cX4_even 8 (some .int) :: ((wsX4_even_r1 ++ wsX4_even_r2) ++ wsX40)
def wsX4_join : List Cond := .code yX4_join cX4_join 4 none :: ([.fieldLink RX4 7 "HopMeetModel" "now" "[I", .fieldLink RX4 23 "HopMeetModel" "group" "[I"] ++ wsX40)
def wsX4_slot_r1 : List Cond := [Cond.fieldLink RX4 7 "HopMeetModel" "now" "[I", Cond.fieldLink RX4 23 "HopMeetModel" "group" "[I", Cond.fieldLink RX4 73 "HopMeetModel" "slots" "I", Cond.methodLink RX4 123 yX4_isMet, Cond.instanceMethod yX4_isMet, Cond.selects RX4 yX4_isMet yX4_isMet, Cond.initialized RX4, Cond.code yX4_isMet cX4_isMet 5 (some .boolean), Cond.methodLink RX4 70 yX4_place, Cond.instanceMethod yX4_place, Cond.selects RX4 yX4_place yX4_place, Cond.code yX4_place cX4_place 3 (some .int), Cond.methodLink RX4 67 yX4_whyNot, Cond.instanceMethod yX4_whyNot, Cond.selects RX4 yX4_whyNot yX4_whyNot, Cond.code yX4_whyNot cX4_whyNot 4 (some .int), Cond.methodLink RX4 50 yX4_of, Cond.instanceMethod yX4_of, Cond.selects RX4 yX4_of yX4_of, Cond.code yX4_of cX4_of 3 (some .int), Cond.methodLink RX4 61 yX4_lands, Cond.instanceMethod yX4_lands, Cond.selects RX4 yX4_lands yX4_lands, Cond.code yX4_lands cX4_lands 7 (some .int)]
def wsX4_slot_r2 : List Cond := [Cond.methodLink RX4 54 yX4_points, Cond.instanceMethod yX4_points, Cond.selects RX4 yX4_points yX4_points, Cond.code yX4_points cX4_points 10 (some .int), Cond.fieldLink RX4 35 "HopMeetModel" "prime" "I", Cond.methodLink RX4 57 yX4_ones, Cond.static yX4_ones, Cond.code yX4_ones cX4_ones 3 (some .int), Cond.methodLink RX4 64 yX4_isShut, Cond.instanceMethod yX4_isShut, Cond.selects RX4 yX4_isShut yX4_isShut, Cond.code yX4_isShut cX4_isShut 8 (some .boolean), Cond.methodLink RX4 43 yX4_in, Cond.static yX4_in, Cond.code yX4_in cX4_in 3 (some .boolean), Cond.methodLink RX4 130 yX4_join, Cond.instanceMethod yX4_join, Cond.selects RX4 yX4_join yX4_join, Cond.code yX4_join cX4_join 4 none]
def wsX4_slot : List Cond := .code yX4_slot cX4_slot 3 none :: ((wsX4_slot_r1 ++ wsX4_slot_r2) ++ wsX40)
def wsX4_run_r1 : List Cond := [Cond.constant RX4 83 (-1000000002), Cond.fieldLink RX4 7 "HopMeetModel" "now" "[I", Cond.constant RX4 110 (-1000000003), Cond.fieldLink RX4 73 "HopMeetModel" "slots" "I", Cond.constant RX4 88 (-1000000004), Cond.methodLink RX4 43 yX4_in, Cond.static yX4_in, Cond.initialized RX4, Cond.code yX4_in cX4_in 3 (some .boolean), Cond.methodLink RX4 134 yX4_slot, Cond.instanceMethod yX4_slot, Cond.selects RX4 yX4_slot yX4_slot, Cond.code yX4_slot cX4_slot 3 none, Cond.fieldLink RX4 23 "HopMeetModel" "group" "[I", Cond.methodLink RX4 123 yX4_isMet, Cond.instanceMethod yX4_isMet, Cond.selects RX4 yX4_isMet yX4_isMet, Cond.code yX4_isMet cX4_isMet 5 (some .boolean), Cond.methodLink RX4 70 yX4_place, Cond.instanceMethod yX4_place, Cond.selects RX4 yX4_place yX4_place, Cond.code yX4_place cX4_place 3 (some .int), Cond.methodLink RX4 67 yX4_whyNot, Cond.instanceMethod yX4_whyNot]
def wsX4_run_r2 : List Cond := [Cond.selects RX4 yX4_whyNot yX4_whyNot, Cond.code yX4_whyNot cX4_whyNot 4 (some .int), Cond.methodLink RX4 50 yX4_of, Cond.instanceMethod yX4_of, Cond.selects RX4 yX4_of yX4_of, Cond.code yX4_of cX4_of 3 (some .int), Cond.methodLink RX4 61 yX4_lands, Cond.instanceMethod yX4_lands, Cond.selects RX4 yX4_lands yX4_lands, Cond.code yX4_lands cX4_lands 7 (some .int), Cond.methodLink RX4 54 yX4_points, Cond.instanceMethod yX4_points, Cond.selects RX4 yX4_points yX4_points, Cond.code yX4_points cX4_points 10 (some .int), Cond.fieldLink RX4 35 "HopMeetModel" "prime" "I", Cond.methodLink RX4 57 yX4_ones, Cond.static yX4_ones, Cond.code yX4_ones cX4_ones 3 (some .int), Cond.methodLink RX4 64 yX4_isShut, Cond.instanceMethod yX4_isShut, Cond.selects RX4 yX4_isShut yX4_isShut, Cond.code yX4_isShut cX4_isShut 8 (some .boolean), Cond.methodLink RX4 130 yX4_join, Cond.instanceMethod yX4_join]
def wsX4_run_r3 : List Cond := [Cond.selects RX4 yX4_join yX4_join, Cond.code yX4_join cX4_join 4 none, Cond.methodLink RX4 117 yX4_groups, Cond.instanceMethod yX4_groups, Cond.selects RX4 yX4_groups yX4_groups, Cond.code yX4_groups cX4_groups 3 (some .int)]
def wsX4_run : List Cond := .code yX4_run cX4_run 3 (some .int) :: ((wsX4_run_r1 ++ (wsX4_run_r2 ++ wsX4_run_r3)) ++ wsX40)
def wsX4_merge_r1 : List Cond := [Cond.fieldLink RX4 7 "HopMeetModel" "now" "[I", Cond.constant RX4 110 (-1000000003), Cond.fieldLink RX4 73 "HopMeetModel" "slots" "I", Cond.methodLink RX4 117 yX4_groups, Cond.instanceMethod yX4_groups, Cond.selects RX4 yX4_groups yX4_groups, Cond.initialized RX4, Cond.code yX4_groups cX4_groups 3 (some .int), Cond.fieldLink RX4 23 "HopMeetModel" "group" "[I", Cond.methodLink RX4 134 yX4_slot, Cond.instanceMethod yX4_slot, Cond.selects RX4 yX4_slot yX4_slot, Cond.code yX4_slot cX4_slot 3 none, Cond.methodLink RX4 123 yX4_isMet, Cond.instanceMethod yX4_isMet, Cond.selects RX4 yX4_isMet yX4_isMet, Cond.code yX4_isMet cX4_isMet 5 (some .boolean), Cond.methodLink RX4 70 yX4_place, Cond.instanceMethod yX4_place, Cond.selects RX4 yX4_place yX4_place, Cond.code yX4_place cX4_place 3 (some .int), Cond.methodLink RX4 67 yX4_whyNot, Cond.instanceMethod yX4_whyNot, Cond.selects RX4 yX4_whyNot yX4_whyNot]
def wsX4_merge_r2 : List Cond := [Cond.code yX4_whyNot cX4_whyNot 4 (some .int), Cond.methodLink RX4 50 yX4_of, Cond.instanceMethod yX4_of, Cond.selects RX4 yX4_of yX4_of, Cond.code yX4_of cX4_of 3 (some .int), Cond.methodLink RX4 61 yX4_lands, Cond.instanceMethod yX4_lands, Cond.selects RX4 yX4_lands yX4_lands, Cond.code yX4_lands cX4_lands 7 (some .int), Cond.methodLink RX4 54 yX4_points, Cond.instanceMethod yX4_points, Cond.selects RX4 yX4_points yX4_points, Cond.code yX4_points cX4_points 10 (some .int), Cond.fieldLink RX4 35 "HopMeetModel" "prime" "I", Cond.methodLink RX4 57 yX4_ones, Cond.static yX4_ones, Cond.code yX4_ones cX4_ones 3 (some .int), Cond.methodLink RX4 64 yX4_isShut, Cond.instanceMethod yX4_isShut, Cond.selects RX4 yX4_isShut yX4_isShut, Cond.code yX4_isShut cX4_isShut 8 (some .boolean), Cond.methodLink RX4 43 yX4_in, Cond.static yX4_in, Cond.code yX4_in cX4_in 3 (some .boolean)]
def wsX4_merge_r3 : List Cond := [Cond.methodLink RX4 130 yX4_join, Cond.instanceMethod yX4_join, Cond.selects RX4 yX4_join yX4_join, Cond.code yX4_join cX4_join 4 none]
def wsX4_merge : List Cond := .code yX4_merge cX4_merge 2 (some .int) :: ((wsX4_merge_r1 ++ (wsX4_merge_r2 ++ wsX4_merge_r3)) ++ wsX40)
def wsX4_part : List Cond := .code yX4_part cX4_part 2 (some .int) :: ([.fieldLink RX4 73 "HopMeetModel" "slots" "I", .methodLink RX4 32 yX4_anew, .instanceMethod yX4_anew, .selects RX4 yX4_anew yX4_anew, .initialized RX4, .code yX4_anew cX4_anew 2 none, .fieldLink RX4 23 "HopMeetModel" "group" "[I"] ++ wsX40)
def wsX4_keep : List Cond := .code yX4_keep cX4_keep 2 (some .int) :: ([.constant RX4 96 (-1000000001), .fieldLink RX4 7 "HopMeetModel" "now" "[I", .fieldLink RX4 16 "HopMeetModel" "image" "[I", .fieldLink RX4 19 "HopMeetModel" "isKept" "[Z", .methodLink RX4 43 yX4_in, .static yX4_in, .initialized RX4, .code yX4_in cX4_in 3 (some .boolean), .methodLink RX4 79 yX4_bring, .static yX4_bring, .code yX4_bring cX4_bring 6 none] ++ wsX40)
def wsX4_goBack_r1 : List Cond := [Cond.constant RX4 96 (-1000000001), Cond.fieldLink RX4 19 "HopMeetModel" "isKept" "[Z", Cond.constant RX4 110 (-1000000003), Cond.fieldLink RX4 16 "HopMeetModel" "image" "[I", Cond.fieldLink RX4 7 "HopMeetModel" "now" "[I", Cond.fieldLink RX4 76 "HopMeetModel" "backs" "I", Cond.methodLink RX4 43 yX4_in, Cond.static yX4_in, Cond.initialized RX4, Cond.code yX4_in cX4_in 3 (some .boolean), Cond.methodLink RX4 79 yX4_bring, Cond.static yX4_bring, Cond.code yX4_bring cX4_bring 6 none, Cond.methodLink RX4 29 yX4_layPrime, Cond.instanceMethod yX4_layPrime, Cond.selects RX4 yX4_layPrime yX4_layPrime, Cond.code yX4_layPrime cX4_layPrime 1 none, Cond.fieldLink RX4 35 "HopMeetModel" "prime" "I", Cond.methodLink RX4 39 yX4_isPrime, Cond.static yX4_isPrime, Cond.code yX4_isPrime cX4_isPrime 3 (some .boolean), Cond.methodLink RX4 32 yX4_anew, Cond.instanceMethod yX4_anew, Cond.selects RX4 yX4_anew yX4_anew]
def wsX4_goBack_r2 : List Cond := [Cond.code yX4_anew cX4_anew 2 none, Cond.fieldLink RX4 73 "HopMeetModel" "slots" "I", Cond.fieldLink RX4 23 "HopMeetModel" "group" "[I"]
def wsX4_goBack : List Cond := .code yX4_goBack cX4_goBack 2 (some .int) :: ((wsX4_goBack_r1 ++ wsX4_goBack_r2) ++ wsX40)
def wsJ9_max_7cf53 : List Cond := .code yJ9_max_7cf53 cJ9_max_7cf53 2 (some .int) :: ([])
def wsJ9_min_7cf53 : List Cond := .code yJ9_min_7cf53 cJ9_min_7cf53 2 (some .int) :: ([])
theorem dX0_init_0 : decode cX0_init 0 = .ok (.aload_n 0, 1) := by decide +kernel
theorem dX0_init_1 : decode cX0_init 1 = .ok (.invokespecial 3, 3) := by decide +kernel
theorem dX0_init_4 : decode cX0_init 4 = .ok (.aload_n 0, 1) := by decide +kernel
theorem dX0_init_5 : decode cX0_init 5 = .ok (.iconst 5, 1) := by decide +kernel
theorem dX0_init_6 : decode cX0_init 6 = .ok (.newarray .int, 2) := by decide +kernel
theorem dX0_init_8 : decode cX0_init 8 = .ok (.putfield 9, 3) := by decide +kernel
theorem dX0_init_11 : decode cX0_init 11 = .ok (.aload_n 0, 1) := by decide +kernel
theorem dX0_init_12 : decode cX0_init 12 = .ok (.bipush 10, 2) := by decide +kernel
theorem dX0_init_14 : decode cX0_init 14 = .ok (.newarray .int, 2) := by decide +kernel
theorem dX0_init_16 : decode cX0_init 16 = .ok (.putfield 15, 3) := by decide +kernel
theorem dX0_init_19 : decode cX0_init 19 = .ok (.return_, 1) := by decide +kernel
theorem dX0_begin_0 : decode cX0_begin 0 = .ok (.aload_n 0, 1) := by decide +kernel
theorem dX0_begin_1 : decode cX0_begin 1 = .ok (.iconst 0, 1) := by decide +kernel
theorem dX0_begin_2 : decode cX0_begin 2 = .ok (.putfield 18, 3) := by decide +kernel
theorem dX0_begin_5 : decode cX0_begin 5 = .ok (.aload_n 0, 1) := by decide +kernel
theorem dX0_begin_6 : decode cX0_begin 6 = .ok (.iload_n 1, 1) := by decide +kernel
theorem dX0_begin_7 : decode cX0_begin 7 = .ok (.putfield 22, 3) := by decide +kernel
theorem dX0_begin_10 : decode cX0_begin 10 = .ok (.iconst 0, 1) := by decide +kernel
theorem dX0_begin_11 : decode cX0_begin 11 = .ok (.istore_n 2, 1) := by decide +kernel
theorem dX0_begin_12 : decode cX0_begin 12 = .ok (.iload_n 2, 1) := by decide +kernel
theorem dX0_begin_13 : decode cX0_begin 13 = .ok (.iload_n 1, 1) := by decide +kernel
theorem dX0_begin_14 : decode cX0_begin 14 = .ok (.if_icmp .ge 16, 3) := by decide +kernel
theorem dX0_begin_17 : decode cX0_begin 17 = .ok (.aload_n 0, 1) := by decide +kernel
theorem dX0_begin_18 : decode cX0_begin 18 = .ok (.getfield 9, 3) := by decide +kernel
theorem dX0_begin_21 : decode cX0_begin 21 = .ok (.iload_n 2, 1) := by decide +kernel
theorem dX0_begin_22 : decode cX0_begin 22 = .ok (.iload_n 2, 1) := by decide +kernel
theorem dX0_begin_23 : decode cX0_begin 23 = .ok (.iastore, 1) := by decide +kernel
theorem dX0_begin_24 : decode cX0_begin 24 = .ok (.iinc 2 1, 3) := by decide +kernel
theorem dX0_begin_27 : decode cX0_begin 27 = .ok (.goto (-15), 3) := by decide +kernel
theorem dX0_begin_30 : decode cX0_begin 30 = .ok (.return_, 1) := by decide +kernel
theorem dX0_howMany_0 : decode cX0_howMany 0 = .ok (.iconst 0, 1) := by decide +kernel
theorem dX0_howMany_1 : decode cX0_howMany 1 = .ok (.istore_n 1, 1) := by decide +kernel
theorem dX0_howMany_2 : decode cX0_howMany 2 = .ok (.iconst 0, 1) := by decide +kernel
theorem dX0_howMany_3 : decode cX0_howMany 3 = .ok (.istore_n 2, 1) := by decide +kernel
theorem dX0_howMany_4 : decode cX0_howMany 4 = .ok (.iload_n 2, 1) := by decide +kernel
theorem dX0_howMany_5 : decode cX0_howMany 5 = .ok (.aload_n 0, 1) := by decide +kernel
theorem dX0_howMany_6 : decode cX0_howMany 6 = .ok (.getfield 22, 3) := by decide +kernel
theorem dX0_howMany_9 : decode cX0_howMany 9 = .ok (.if_icmp .ge 22, 3) := by decide +kernel
theorem dX0_howMany_12 : decode cX0_howMany 12 = .ok (.aload_n 0, 1) := by decide +kernel
theorem dX0_howMany_13 : decode cX0_howMany 13 = .ok (.getfield 9, 3) := by decide +kernel
theorem dX0_howMany_16 : decode cX0_howMany 16 = .ok (.iload_n 2, 1) := by decide +kernel
theorem dX0_howMany_17 : decode cX0_howMany 17 = .ok (.iaload, 1) := by decide +kernel
theorem dX0_howMany_18 : decode cX0_howMany 18 = .ok (.iload_n 2, 1) := by decide +kernel
theorem dX0_howMany_19 : decode cX0_howMany 19 = .ok (.if_icmp .ne 6, 3) := by decide +kernel
theorem dX0_howMany_22 : decode cX0_howMany 22 = .ok (.iinc 1 1, 3) := by decide +kernel
theorem dX0_howMany_25 : decode cX0_howMany 25 = .ok (.iinc 2 1, 3) := by decide +kernel
theorem dX0_howMany_28 : decode cX0_howMany 28 = .ok (.goto (-24), 3) := by decide +kernel
theorem dX0_howMany_31 : decode cX0_howMany 31 = .ok (.iload_n 1, 1) := by decide +kernel
theorem dX0_howMany_32 : decode cX0_howMany 32 = .ok (.ireturn, 1) := by decide +kernel
theorem dX0_sizeOfGroupOf_0 : decode cX0_sizeOfGroupOf 0 = .ok (.iconst 0, 1) := by decide +kernel
theorem dX0_sizeOfGroupOf_1 : decode cX0_sizeOfGroupOf 1 = .ok (.istore_n 2, 1) := by decide +kernel
theorem dX0_sizeOfGroupOf_2 : decode cX0_sizeOfGroupOf 2 = .ok (.iconst 0, 1) := by decide +kernel
theorem dX0_sizeOfGroupOf_3 : decode cX0_sizeOfGroupOf 3 = .ok (.istore_n 3, 1) := by decide +kernel
theorem dX0_sizeOfGroupOf_4 : decode cX0_sizeOfGroupOf 4 = .ok (.iload_n 3, 1) := by decide +kernel
theorem dX0_sizeOfGroupOf_5 : decode cX0_sizeOfGroupOf 5 = .ok (.aload_n 0, 1) := by decide +kernel
theorem dX0_sizeOfGroupOf_6 : decode cX0_sizeOfGroupOf 6 = .ok (.getfield 22, 3) := by decide +kernel
theorem dX0_sizeOfGroupOf_9 : decode cX0_sizeOfGroupOf 9 = .ok (.if_icmp .ge 27, 3) := by decide +kernel
theorem dX0_sizeOfGroupOf_12 : decode cX0_sizeOfGroupOf 12 = .ok (.aload_n 0, 1) := by decide +kernel
theorem dX0_sizeOfGroupOf_13 : decode cX0_sizeOfGroupOf 13 = .ok (.getfield 9, 3) := by decide +kernel
theorem dX0_sizeOfGroupOf_16 : decode cX0_sizeOfGroupOf 16 = .ok (.iload_n 3, 1) := by decide +kernel
theorem dX0_sizeOfGroupOf_17 : decode cX0_sizeOfGroupOf 17 = .ok (.iaload, 1) := by decide +kernel
theorem dX0_sizeOfGroupOf_18 : decode cX0_sizeOfGroupOf 18 = .ok (.aload_n 0, 1) := by decide +kernel
theorem dX0_sizeOfGroupOf_19 : decode cX0_sizeOfGroupOf 19 = .ok (.getfield 9, 3) := by decide +kernel
theorem dX0_sizeOfGroupOf_22 : decode cX0_sizeOfGroupOf 22 = .ok (.iload_n 1, 1) := by decide +kernel
theorem dX0_sizeOfGroupOf_23 : decode cX0_sizeOfGroupOf 23 = .ok (.iaload, 1) := by decide +kernel
theorem dX0_sizeOfGroupOf_24 : decode cX0_sizeOfGroupOf 24 = .ok (.if_icmp .ne 6, 3) := by decide +kernel
theorem dX0_sizeOfGroupOf_27 : decode cX0_sizeOfGroupOf 27 = .ok (.iinc 2 1, 3) := by decide +kernel
theorem dX0_sizeOfGroupOf_30 : decode cX0_sizeOfGroupOf 30 = .ok (.iinc 3 1, 3) := by decide +kernel
theorem dX0_sizeOfGroupOf_33 : decode cX0_sizeOfGroupOf 33 = .ok (.goto (-29), 3) := by decide +kernel
theorem dX0_sizeOfGroupOf_36 : decode cX0_sizeOfGroupOf 36 = .ok (.iload_n 2, 1) := by decide +kernel
theorem dX0_sizeOfGroupOf_37 : decode cX0_sizeOfGroupOf 37 = .ok (.ireturn, 1) := by decide +kernel
set_option maxRecDepth 20000 in
theorem ggX0_runSlot_X2_place : GoodIn wsX0_runSlot wsX2_place := goodIn_r _ [9, 10, 11, 12, 8, 13, 14, 15, 16, 17, 18, 19, 20, 21, 22, 23, 24, 25, 26, 27, 28, 29, 30, 31, 32, 33, 34, 35, 36, 37, 38, 39, 40, 41, 42, 43, 44, 45, 46, 47, 61, 62, 63, 64, 65, 66] (by decide +kernel) (by decide +kernel)
set_option maxRecDepth 20000 in
theorem gX0_runSlot_X2_place : GoodIn wsX0_runSlot (wsV RX0 25 RX2 yX2_place wsX2_place) := goodIn_app (goodIn_of _ (by decide +kernel)) ggX0_runSlot_X2_place
set_option maxRecDepth 20000 in
theorem ggX0_runSlot_X0_settle : GoodIn wsX0_runSlot wsX0_settle := goodIn_r _ [52, 1, 53, 54, 55, 51, 56, 2, 3, 57, 58, 59, 60] (by decide +kernel) (by decide +kernel)
set_option maxRecDepth 20000 in
theorem gX0_runSlot_X0_settle : GoodIn wsX0_runSlot (wsV RX0 31 RX0 yX0_settle wsX0_settle) := goodIn_app (goodIn_of _ (by decide +kernel)) ggX0_runSlot_X0_settle
theorem dX0_runSlot_0 : decode cX0_runSlot 0 = .ok (.iconst 0, 1) := by decide +kernel
theorem dX0_runSlot_1 : decode cX0_runSlot 1 = .ok (.istore_n 2, 1) := by decide +kernel
theorem dX0_runSlot_2 : decode cX0_runSlot 2 = .ok (.iload_n 2, 1) := by decide +kernel
theorem dX0_runSlot_3 : decode cX0_runSlot 3 = .ok (.bipush 10, 2) := by decide +kernel
theorem dX0_runSlot_5 : decode cX0_runSlot 5 = .ok (.if_icmp .ge 16, 3) := by decide +kernel
theorem dX0_runSlot_8 : decode cX0_runSlot 8 = .ok (.aload_n 0, 1) := by decide +kernel
theorem dX0_runSlot_9 : decode cX0_runSlot 9 = .ok (.getfield 15, 3) := by decide +kernel
theorem dX0_runSlot_12 : decode cX0_runSlot 12 = .ok (.iload_n 2, 1) := by decide +kernel
theorem dX0_runSlot_13 : decode cX0_runSlot 13 = .ok (.iconst (-1), 1) := by decide +kernel
theorem dX0_runSlot_14 : decode cX0_runSlot 14 = .ok (.iastore, 1) := by decide +kernel
theorem dX0_runSlot_15 : decode cX0_runSlot 15 = .ok (.iinc 2 1, 3) := by decide +kernel
theorem dX0_runSlot_18 : decode cX0_runSlot 18 = .ok (.goto (-16), 3) := by decide +kernel
theorem dX0_runSlot_21 : decode cX0_runSlot 21 = .ok (.iconst 0, 1) := by decide +kernel
theorem dX0_runSlot_22 : decode cX0_runSlot 22 = .ok (.istore_n 2, 1) := by decide +kernel
theorem dX0_runSlot_23 : decode cX0_runSlot 23 = .ok (.iload_n 2, 1) := by decide +kernel
theorem dX0_runSlot_24 : decode cX0_runSlot 24 = .ok (.aload_n 0, 1) := by decide +kernel
theorem dX0_runSlot_25 : decode cX0_runSlot 25 = .ok (.getfield 22, 3) := by decide +kernel
theorem dX0_runSlot_28 : decode cX0_runSlot 28 = .ok (.if_icmp .ge 33, 3) := by decide +kernel
theorem dX0_runSlot_31 : decode cX0_runSlot 31 = .ok (.aload_n 0, 1) := by decide +kernel
theorem dX0_runSlot_32 : decode cX0_runSlot 32 = .ok (.getfield 9, 3) := by decide +kernel
theorem dX0_runSlot_35 : decode cX0_runSlot 35 = .ok (.iload_n 2, 1) := by decide +kernel
theorem dX0_runSlot_36 : decode cX0_runSlot 36 = .ok (.iaload, 1) := by decide +kernel
theorem dX0_runSlot_37 : decode cX0_runSlot 37 = .ok (.iload_n 2, 1) := by decide +kernel
theorem dX0_runSlot_38 : decode cX0_runSlot 38 = .ok (.if_icmp .ne 17, 3) := by decide +kernel
theorem dX0_runSlot_41 : decode cX0_runSlot 41 = .ok (.aload_n 0, 1) := by decide +kernel
theorem dX0_runSlot_42 : decode cX0_runSlot 42 = .ok (.iload_n 2, 1) := by decide +kernel
theorem dX0_runSlot_43 : decode cX0_runSlot 43 = .ok (.aload_n 1, 1) := by decide +kernel
theorem dX0_runSlot_44 : decode cX0_runSlot 44 = .ok (.iload_n 2, 1) := by decide +kernel
theorem dX0_runSlot_45 : decode cX0_runSlot 45 = .ok (.aload_n 0, 1) := by decide +kernel
theorem dX0_runSlot_46 : decode cX0_runSlot 46 = .ok (.getfield 18, 3) := by decide +kernel
theorem dX0_runSlot_49 : decode cX0_runSlot 49 = .ok (.invokevirtual 25, 3) := by decide +kernel
theorem dX0_runSlot_52 : decode cX0_runSlot 52 = .ok (.invokevirtual 31, 3) := by decide +kernel
theorem dX0_runSlot_55 : decode cX0_runSlot 55 = .ok (.iinc 2 1, 3) := by decide +kernel
theorem dX0_runSlot_58 : decode cX0_runSlot 58 = .ok (.goto (-35), 3) := by decide +kernel
theorem dX0_runSlot_61 : decode cX0_runSlot 61 = .ok (.aload_n 0, 1) := by decide +kernel
theorem dX0_runSlot_62 : decode cX0_runSlot 62 = .ok (.dup, 1) := by decide +kernel
theorem dX0_runSlot_63 : decode cX0_runSlot 63 = .ok (.getfield 18, 3) := by decide +kernel
theorem dX0_runSlot_66 : decode cX0_runSlot 66 = .ok (.iconst 1, 1) := by decide +kernel
theorem dX0_runSlot_67 : decode cX0_runSlot 67 = .ok (.iadd, 1) := by decide +kernel
theorem dX0_runSlot_68 : decode cX0_runSlot 68 = .ok (.putfield 18, 3) := by decide +kernel
theorem dX0_runSlot_71 : decode cX0_runSlot 71 = .ok (.return_, 1) := by decide +kernel
set_option maxRecDepth 20000 in
theorem ggX0_settle_X0_join : GoodIn wsX0_settle wsX0_join := goodIn_r _ [6, 7, 8, 9, 10, 11, 12] (by decide +kernel) (by decide +kernel)
set_option maxRecDepth 20000 in
theorem gX0_settle_X0_join : GoodIn wsX0_settle (wsV RX0 35 RX0 yX0_join wsX0_join) := goodIn_app (goodIn_of _ (by decide +kernel)) ggX0_settle_X0_join
theorem dX0_settle_0 : decode cX0_settle 0 = .ok (.iload_n 2, 1) := by decide +kernel
theorem dX0_settle_1 : decode cX0_settle 1 = .ok (.iconst (-1), 1) := by decide +kernel
theorem dX0_settle_2 : decode cX0_settle 2 = .ok (.if_icmp .ne 4, 3) := by decide +kernel
theorem dX0_settle_5 : decode cX0_settle 5 = .ok (.return_, 1) := by decide +kernel
theorem dX0_settle_6 : decode cX0_settle 6 = .ok (.aload_n 0, 1) := by decide +kernel
theorem dX0_settle_7 : decode cX0_settle 7 = .ok (.getfield 15, 3) := by decide +kernel
theorem dX0_settle_10 : decode cX0_settle 10 = .ok (.iload_n 2, 1) := by decide +kernel
theorem dX0_settle_11 : decode cX0_settle 11 = .ok (.iaload, 1) := by decide +kernel
theorem dX0_settle_12 : decode cX0_settle 12 = .ok (.iconst (-1), 1) := by decide +kernel
theorem dX0_settle_13 : decode cX0_settle 13 = .ok (.if_icmp .ne 13, 3) := by decide +kernel
theorem dX0_settle_16 : decode cX0_settle 16 = .ok (.aload_n 0, 1) := by decide +kernel
theorem dX0_settle_17 : decode cX0_settle 17 = .ok (.getfield 15, 3) := by decide +kernel
theorem dX0_settle_20 : decode cX0_settle 20 = .ok (.iload_n 2, 1) := by decide +kernel
theorem dX0_settle_21 : decode cX0_settle 21 = .ok (.iload_n 1, 1) := by decide +kernel
theorem dX0_settle_22 : decode cX0_settle 22 = .ok (.iastore, 1) := by decide +kernel
theorem dX0_settle_23 : decode cX0_settle 23 = .ok (.goto 14, 3) := by decide +kernel
theorem dX0_settle_26 : decode cX0_settle 26 = .ok (.aload_n 0, 1) := by decide +kernel
theorem dX0_settle_27 : decode cX0_settle 27 = .ok (.iload_n 1, 1) := by decide +kernel
theorem dX0_settle_28 : decode cX0_settle 28 = .ok (.aload_n 0, 1) := by decide +kernel
theorem dX0_settle_29 : decode cX0_settle 29 = .ok (.getfield 15, 3) := by decide +kernel
theorem dX0_settle_32 : decode cX0_settle 32 = .ok (.iload_n 2, 1) := by decide +kernel
theorem dX0_settle_33 : decode cX0_settle 33 = .ok (.iaload, 1) := by decide +kernel
theorem dX0_settle_34 : decode cX0_settle 34 = .ok (.invokevirtual 35, 3) := by decide +kernel
theorem dX0_settle_37 : decode cX0_settle 37 = .ok (.return_, 1) := by decide +kernel
theorem dX0_join_0 : decode cX0_join 0 = .ok (.iconst 0, 1) := by decide +kernel
theorem dX0_join_1 : decode cX0_join 1 = .ok (.istore_n 3, 1) := by decide +kernel
theorem dX0_join_2 : decode cX0_join 2 = .ok (.iload_n 3, 1) := by decide +kernel
theorem dX0_join_3 : decode cX0_join 3 = .ok (.aload_n 0, 1) := by decide +kernel
theorem dX0_join_4 : decode cX0_join 4 = .ok (.getfield 22, 3) := by decide +kernel
theorem dX0_join_7 : decode cX0_join 7 = .ok (.if_icmp .ge 26, 3) := by decide +kernel
theorem dX0_join_10 : decode cX0_join 10 = .ok (.aload_n 0, 1) := by decide +kernel
theorem dX0_join_11 : decode cX0_join 11 = .ok (.getfield 9, 3) := by decide +kernel
theorem dX0_join_14 : decode cX0_join 14 = .ok (.iload_n 3, 1) := by decide +kernel
theorem dX0_join_15 : decode cX0_join 15 = .ok (.iaload, 1) := by decide +kernel
theorem dX0_join_16 : decode cX0_join 16 = .ok (.iload_n 1, 1) := by decide +kernel
theorem dX0_join_17 : decode cX0_join 17 = .ok (.if_icmp .ne 10, 3) := by decide +kernel
theorem dX0_join_20 : decode cX0_join 20 = .ok (.aload_n 0, 1) := by decide +kernel
theorem dX0_join_21 : decode cX0_join 21 = .ok (.getfield 9, 3) := by decide +kernel
theorem dX0_join_24 : decode cX0_join 24 = .ok (.iload_n 3, 1) := by decide +kernel
theorem dX0_join_25 : decode cX0_join 25 = .ok (.iload_n 2, 1) := by decide +kernel
theorem dX0_join_26 : decode cX0_join 26 = .ok (.iastore, 1) := by decide +kernel
theorem dX0_join_27 : decode cX0_join 27 = .ok (.iinc 3 1, 3) := by decide +kernel
theorem dX0_join_30 : decode cX0_join 30 = .ok (.goto (-28), 3) := by decide +kernel
theorem dX0_join_33 : decode cX0_join 33 = .ok (.return_, 1) := by decide +kernel
set_option maxRecDepth 20000 in
theorem ggX1_init_X2_init : GoodIn wsX1_init wsX2_init := goodIn_r _ [10, 11, 2, 3, 12, 13, 14, 15, 16, 17, 18, 7, 19, 20, 21, 22, 23, 24, 25, 26, 27, 28, 29, 33, 34, 35, 36, 37, 38] (by decide +kernel) (by decide +kernel)
set_option maxRecDepth 20000 in
theorem gX1_init_X2_init : GoodIn wsX1_init (wsX2_init) := ggX1_init_X2_init
theorem dX1_init_0 : decode cX1_init 0 = .ok (.aload_n 0, 1) := by decide +kernel
theorem dX1_init_1 : decode cX1_init 1 = .ok (.invokespecial 3, 3) := by decide +kernel
theorem dX1_init_4 : decode cX1_init 4 = .ok (.aload_n 0, 1) := by decide +kernel
theorem dX1_init_5 : decode cX1_init 5 = .ok (.bipush 12, 2) := by decide +kernel
theorem dX1_init_7 : decode cX1_init 7 = .ok (.anewarray 9, 3) := by decide +kernel
theorem dX1_init_10 : decode cX1_init 10 = .ok (.putfield 11, 3) := by decide +kernel
theorem dX1_init_13 : decode cX1_init 13 = .ok (.iconst 0, 1) := by decide +kernel
theorem dX1_init_14 : decode cX1_init 14 = .ok (.istore_n 1, 1) := by decide +kernel
theorem dX1_init_15 : decode cX1_init 15 = .ok (.iload_n 1, 1) := by decide +kernel
theorem dX1_init_16 : decode cX1_init 16 = .ok (.bipush 12, 2) := by decide +kernel
theorem dX1_init_18 : decode cX1_init 18 = .ok (.if_icmp .ge 22, 3) := by decide +kernel
theorem dX1_init_21 : decode cX1_init 21 = .ok (.aload_n 0, 1) := by decide +kernel
theorem dX1_init_22 : decode cX1_init 22 = .ok (.getfield 11, 3) := by decide +kernel
theorem dX1_init_25 : decode cX1_init 25 = .ok (.iload_n 1, 1) := by decide +kernel
theorem dX1_init_26 : decode cX1_init 26 = .ok (.new 9, 3) := by decide +kernel
theorem dX1_init_29 : decode cX1_init 29 = .ok (.dup, 1) := by decide +kernel
theorem dX1_init_30 : decode cX1_init 30 = .ok (.invokespecial 17, 3) := by decide +kernel
theorem dX1_init_33 : decode cX1_init 33 = .ok (.aastore, 1) := by decide +kernel
theorem dX1_init_34 : decode cX1_init 34 = .ok (.iinc 1 1, 3) := by decide +kernel
theorem dX1_init_37 : decode cX1_init 37 = .ok (.goto (-22), 3) := by decide +kernel
theorem dX1_init_40 : decode cX1_init 40 = .ok (.return_, 1) := by decide +kernel
theorem dX1_forget_0 : decode cX1_forget 0 = .ok (.aload_n 0, 1) := by decide +kernel
theorem dX1_forget_1 : decode cX1_forget 1 = .ok (.iconst 0, 1) := by decide +kernel
theorem dX1_forget_2 : decode cX1_forget 2 = .ok (.putfield 18, 3) := by decide +kernel
theorem dX1_forget_5 : decode cX1_forget 5 = .ok (.aload_n 0, 1) := by decide +kernel
theorem dX1_forget_6 : decode cX1_forget 6 = .ok (.iconst 0, 1) := by decide +kernel
theorem dX1_forget_7 : decode cX1_forget 7 = .ok (.putfield 22, 3) := by decide +kernel
theorem dX1_forget_10 : decode cX1_forget 10 = .ok (.return_, 1) := by decide +kernel
set_option maxRecDepth 20000 in
theorem ggX1_remember_X2_become : GoodIn wsX1_remember wsX2_become := goodIn_r _ [12, 13, 14, 15, 16, 17, 18, 19, 20, 21, 22, 26, 27, 28, 29, 30, 31] (by decide +kernel) (by decide +kernel)
set_option maxRecDepth 20000 in
theorem gX1_remember_X2_become : GoodIn wsX1_remember (wsV RX1 25 RX2 yX2_become wsX2_become) := goodIn_app (goodIn_of _ (by decide +kernel)) ggX1_remember_X2_become
theorem dX1_remember_0 : decode cX1_remember 0 = .ok (.aload_n 0, 1) := by decide +kernel
theorem dX1_remember_1 : decode cX1_remember 1 = .ok (.getfield 11, 3) := by decide +kernel
theorem dX1_remember_4 : decode cX1_remember 4 = .ok (.aload_n 0, 1) := by decide +kernel
theorem dX1_remember_5 : decode cX1_remember 5 = .ok (.getfield 18, 3) := by decide +kernel
theorem dX1_remember_8 : decode cX1_remember 8 = .ok (.aaload, 1) := by decide +kernel
theorem dX1_remember_9 : decode cX1_remember 9 = .ok (.aload_n 1, 1) := by decide +kernel
theorem dX1_remember_10 : decode cX1_remember 10 = .ok (.invokevirtual 25, 3) := by decide +kernel
theorem dX1_remember_13 : decode cX1_remember 13 = .ok (.aload_n 0, 1) := by decide +kernel
theorem dX1_remember_14 : decode cX1_remember 14 = .ok (.aload_n 0, 1) := by decide +kernel
theorem dX1_remember_15 : decode cX1_remember 15 = .ok (.getfield 18, 3) := by decide +kernel
theorem dX1_remember_18 : decode cX1_remember 18 = .ok (.iconst 1, 1) := by decide +kernel
theorem dX1_remember_19 : decode cX1_remember 19 = .ok (.iadd, 1) := by decide +kernel
theorem dX1_remember_20 : decode cX1_remember 20 = .ok (.bipush 12, 2) := by decide +kernel
theorem dX1_remember_22 : decode cX1_remember 22 = .ok (.irem, 1) := by decide +kernel
theorem dX1_remember_23 : decode cX1_remember 23 = .ok (.putfield 18, 3) := by decide +kernel
theorem dX1_remember_26 : decode cX1_remember 26 = .ok (.aload_n 0, 1) := by decide +kernel
theorem dX1_remember_27 : decode cX1_remember 27 = .ok (.aload_n 0, 1) := by decide +kernel
theorem dX1_remember_28 : decode cX1_remember 28 = .ok (.getfield 22, 3) := by decide +kernel
theorem dX1_remember_31 : decode cX1_remember 31 = .ok (.iconst 1, 1) := by decide +kernel
theorem dX1_remember_32 : decode cX1_remember 32 = .ok (.iadd, 1) := by decide +kernel
theorem dX1_remember_33 : decode cX1_remember 33 = .ok (.bipush 12, 2) := by decide +kernel
theorem dX1_remember_35 : decode cX1_remember 35 = .ok (.invokestatic 29, 3) := by decide +kernel
theorem dX1_remember_38 : decode cX1_remember 38 = .ok (.putfield 22, 3) := by decide +kernel
theorem dX1_remember_41 : decode cX1_remember 41 = .ok (.return_, 1) := by decide +kernel
set_option maxRecDepth 20000 in
theorem ggX1_restore_X2_become : GoodIn wsX1_restore wsX2_become := goodIn_r _ [8, 9, 10, 11, 12, 13, 14, 15, 16, 17, 18, 22, 23, 24, 25, 26, 27] (by decide +kernel) (by decide +kernel)
set_option maxRecDepth 20000 in
theorem gX1_restore_X2_become : GoodIn wsX1_restore (wsV RX1 25 RX2 yX2_become wsX2_become) := goodIn_app (goodIn_of _ (by decide +kernel)) ggX1_restore_X2_become
theorem dX1_restore_0 : decode cX1_restore 0 = .ok (.aload_n 0, 1) := by decide +kernel
theorem dX1_restore_1 : decode cX1_restore 1 = .ok (.aload_n 0, 1) := by decide +kernel
theorem dX1_restore_2 : decode cX1_restore 2 = .ok (.getfield 18, 3) := by decide +kernel
theorem dX1_restore_5 : decode cX1_restore 5 = .ok (.bipush 12, 2) := by decide +kernel
theorem dX1_restore_7 : decode cX1_restore 7 = .ok (.iadd, 1) := by decide +kernel
theorem dX1_restore_8 : decode cX1_restore 8 = .ok (.iconst 1, 1) := by decide +kernel
theorem dX1_restore_9 : decode cX1_restore 9 = .ok (.isub, 1) := by decide +kernel
theorem dX1_restore_10 : decode cX1_restore 10 = .ok (.bipush 12, 2) := by decide +kernel
theorem dX1_restore_12 : decode cX1_restore 12 = .ok (.irem, 1) := by decide +kernel
theorem dX1_restore_13 : decode cX1_restore 13 = .ok (.putfield 18, 3) := by decide +kernel
theorem dX1_restore_16 : decode cX1_restore 16 = .ok (.aload_n 1, 1) := by decide +kernel
theorem dX1_restore_17 : decode cX1_restore 17 = .ok (.aload_n 0, 1) := by decide +kernel
theorem dX1_restore_18 : decode cX1_restore 18 = .ok (.getfield 11, 3) := by decide +kernel
theorem dX1_restore_21 : decode cX1_restore 21 = .ok (.aload_n 0, 1) := by decide +kernel
theorem dX1_restore_22 : decode cX1_restore 22 = .ok (.getfield 18, 3) := by decide +kernel
theorem dX1_restore_25 : decode cX1_restore 25 = .ok (.aaload, 1) := by decide +kernel
theorem dX1_restore_26 : decode cX1_restore 26 = .ok (.invokevirtual 25, 3) := by decide +kernel
theorem dX1_restore_29 : decode cX1_restore 29 = .ok (.aload_n 0, 1) := by decide +kernel
theorem dX1_restore_30 : decode cX1_restore 30 = .ok (.dup, 1) := by decide +kernel
theorem dX1_restore_31 : decode cX1_restore 31 = .ok (.getfield 22, 3) := by decide +kernel
theorem dX1_restore_34 : decode cX1_restore 34 = .ok (.iconst 1, 1) := by decide +kernel
theorem dX1_restore_35 : decode cX1_restore 35 = .ok (.isub, 1) := by decide +kernel
theorem dX1_restore_36 : decode cX1_restore 36 = .ok (.putfield 22, 3) := by decide +kernel
theorem dX1_restore_39 : decode cX1_restore 39 = .ok (.return_, 1) := by decide +kernel
set_option maxRecDepth 20000 in
theorem ggX2_init_X2_clear : GoodIn wsX2_init wsX2_clear := goodIn_r _ [12, 13, 14, 15, 16, 17, 18, 11, 19, 20, 21, 22, 23, 24, 25, 26, 27, 28] (by decide +kernel) (by decide +kernel)
set_option maxRecDepth 20000 in
theorem gX2_init_X2_clear : GoodIn wsX2_init (wsV RX2 19 RX2 yX2_clear wsX2_clear) := goodIn_app (goodIn_of _ (by decide +kernel)) ggX2_init_X2_clear
theorem dX2_init_0 : decode cX2_init 0 = .ok (.aload_n 0, 1) := by decide +kernel
theorem dX2_init_1 : decode cX2_init 1 = .ok (.invokespecial 3, 3) := by decide +kernel
theorem dX2_init_4 : decode cX2_init 4 = .ok (.aload_n 0, 1) := by decide +kernel
theorem dX2_init_5 : decode cX2_init 5 = .ok (.iconst 5, 1) := by decide +kernel
theorem dX2_init_6 : decode cX2_init 6 = .ok (.iconst 5, 1) := by decide +kernel
theorem dX2_init_7 : decode cX2_init 7 = .ok (.multianewarray 9 2, 4) := by decide +kernel
theorem dX2_init_11 : decode cX2_init 11 = .ok (.putfield 11, 3) := by decide +kernel
theorem dX2_init_14 : decode cX2_init 14 = .ok (.aload_n 0, 1) := by decide +kernel
theorem dX2_init_15 : decode cX2_init 15 = .ok (.bipush 8, 2) := by decide +kernel
theorem dX2_init_17 : decode cX2_init 17 = .ok (.iconst 4, 1) := by decide +kernel
theorem dX2_init_18 : decode cX2_init 18 = .ok (.multianewarray 9 2, 4) := by decide +kernel
theorem dX2_init_22 : decode cX2_init 22 = .ok (.putfield 16, 3) := by decide +kernel
theorem dX2_init_25 : decode cX2_init 25 = .ok (.aload_n 0, 1) := by decide +kernel
theorem dX2_init_26 : decode cX2_init 26 = .ok (.iconst 4, 1) := by decide +kernel
theorem dX2_init_27 : decode cX2_init 27 = .ok (.invokevirtual 19, 3) := by decide +kernel
theorem dX2_init_30 : decode cX2_init 30 = .ok (.return_, 1) := by decide +kernel
set_option maxRecDepth 20000 in
theorem ggX2_clear_X2_primeAbove : GoodIn wsX2_clear wsX2_primeAbove := goodIn_r _ [8, 9, 10, 7, 11] (by decide +kernel) (by decide +kernel)
set_option maxRecDepth 20000 in
theorem gX2_clear_X2_primeAbove : GoodIn wsX2_clear (va_wsS RX2 27 yX2_primeAbove wsX2_primeAbove) := goodIn_app (goodIn_of _ (by decide +kernel)) ggX2_clear_X2_primeAbove
theorem dX2_clear_0 : decode cX2_clear 0 = .ok (.aload_n 0, 1) := by decide +kernel
theorem dX2_clear_1 : decode cX2_clear 1 = .ok (.iload_n 1, 1) := by decide +kernel
theorem dX2_clear_2 : decode cX2_clear 2 = .ok (.putfield 23, 3) := by decide +kernel
theorem dX2_clear_5 : decode cX2_clear 5 = .ok (.aload_n 0, 1) := by decide +kernel
theorem dX2_clear_6 : decode cX2_clear 6 = .ok (.iload_n 1, 1) := by decide +kernel
theorem dX2_clear_7 : decode cX2_clear 7 = .ok (.invokestatic 27, 3) := by decide +kernel
theorem dX2_clear_10 : decode cX2_clear 10 = .ok (.putfield 31, 3) := by decide +kernel
theorem dX2_clear_13 : decode cX2_clear 13 = .ok (.aload_n 0, 1) := by decide +kernel
theorem dX2_clear_14 : decode cX2_clear 14 = .ok (.iconst 0, 1) := by decide +kernel
theorem dX2_clear_15 : decode cX2_clear 15 = .ok (.putfield 34, 3) := by decide +kernel
theorem dX2_clear_18 : decode cX2_clear 18 = .ok (.aload_n 0, 1) := by decide +kernel
theorem dX2_clear_19 : decode cX2_clear 19 = .ok (.iconst 0, 1) := by decide +kernel
theorem dX2_clear_20 : decode cX2_clear 20 = .ok (.putfield 37, 3) := by decide +kernel
theorem dX2_clear_23 : decode cX2_clear 23 = .ok (.return_, 1) := by decide +kernel
theorem dX2_become_0 : decode cX2_become 0 = .ok (.aload_n 0, 1) := by decide +kernel
theorem dX2_become_1 : decode cX2_become 1 = .ok (.aload_n 1, 1) := by decide +kernel
theorem dX2_become_2 : decode cX2_become 2 = .ok (.getfield 23, 3) := by decide +kernel
theorem dX2_become_5 : decode cX2_become 5 = .ok (.putfield 23, 3) := by decide +kernel
theorem dX2_become_8 : decode cX2_become 8 = .ok (.aload_n 0, 1) := by decide +kernel
theorem dX2_become_9 : decode cX2_become 9 = .ok (.aload_n 1, 1) := by decide +kernel
theorem dX2_become_10 : decode cX2_become 10 = .ok (.getfield 31, 3) := by decide +kernel
theorem dX2_become_13 : decode cX2_become 13 = .ok (.putfield 31, 3) := by decide +kernel
theorem dX2_become_16 : decode cX2_become 16 = .ok (.aload_n 0, 1) := by decide +kernel
theorem dX2_become_17 : decode cX2_become 17 = .ok (.aload_n 1, 1) := by decide +kernel
theorem dX2_become_18 : decode cX2_become 18 = .ok (.getfield 34, 3) := by decide +kernel
theorem dX2_become_21 : decode cX2_become 21 = .ok (.putfield 34, 3) := by decide +kernel
theorem dX2_become_24 : decode cX2_become 24 = .ok (.aload_n 0, 1) := by decide +kernel
theorem dX2_become_25 : decode cX2_become 25 = .ok (.aload_n 1, 1) := by decide +kernel
theorem dX2_become_26 : decode cX2_become 26 = .ok (.getfield 37, 3) := by decide +kernel
theorem dX2_become_29 : decode cX2_become 29 = .ok (.putfield 37, 3) := by decide +kernel
theorem dX2_become_32 : decode cX2_become 32 = .ok (.iconst 0, 1) := by decide +kernel
theorem dX2_become_33 : decode cX2_become 33 = .ok (.istore_n 2, 1) := by decide +kernel
theorem dX2_become_34 : decode cX2_become 34 = .ok (.iload_n 2, 1) := by decide +kernel
theorem dX2_become_35 : decode cX2_become 35 = .ok (.aload_n 0, 1) := by decide +kernel
theorem dX2_become_36 : decode cX2_become 36 = .ok (.getfield 34, 3) := by decide +kernel
theorem dX2_become_39 : decode cX2_become 39 = .ok (.if_icmp .ge 27, 3) := by decide +kernel
theorem dX2_become_42 : decode cX2_become 42 = .ok (.aload_n 1, 1) := by decide +kernel
theorem dX2_become_43 : decode cX2_become 43 = .ok (.getfield 11, 3) := by decide +kernel
theorem dX2_become_46 : decode cX2_become 46 = .ok (.iload_n 2, 1) := by decide +kernel
theorem dX2_become_47 : decode cX2_become 47 = .ok (.aaload, 1) := by decide +kernel
theorem dX2_become_48 : decode cX2_become 48 = .ok (.iconst 0, 1) := by decide +kernel
theorem dX2_become_49 : decode cX2_become 49 = .ok (.aload_n 0, 1) := by decide +kernel
theorem dX2_become_50 : decode cX2_become 50 = .ok (.getfield 11, 3) := by decide +kernel
theorem dX2_become_53 : decode cX2_become 53 = .ok (.iload_n 2, 1) := by decide +kernel
theorem dX2_become_54 : decode cX2_become 54 = .ok (.aaload, 1) := by decide +kernel
theorem dX2_become_55 : decode cX2_become 55 = .ok (.iconst 0, 1) := by decide +kernel
theorem dX2_become_56 : decode cX2_become 56 = .ok (.iconst 5, 1) := by decide +kernel
theorem dX2_become_57 : decode cX2_become 57 = .ok (.invokestatic 40, 3) := by decide +kernel
theorem dX2_become_60 : decode cX2_become 60 = .ok (.iinc 2 1, 3) := by decide +kernel
theorem dX2_become_63 : decode cX2_become 63 = .ok (.goto (-29), 3) := by decide +kernel
theorem dX2_become_66 : decode cX2_become 66 = .ok (.iconst 0, 1) := by decide +kernel
theorem dX2_become_67 : decode cX2_become 67 = .ok (.istore_n 2, 1) := by decide +kernel
theorem dX2_become_68 : decode cX2_become 68 = .ok (.iload_n 2, 1) := by decide +kernel
theorem dX2_become_69 : decode cX2_become 69 = .ok (.aload_n 0, 1) := by decide +kernel
theorem dX2_become_70 : decode cX2_become 70 = .ok (.getfield 37, 3) := by decide +kernel
theorem dX2_become_73 : decode cX2_become 73 = .ok (.if_icmp .ge 27, 3) := by decide +kernel
theorem dX2_become_76 : decode cX2_become 76 = .ok (.aload_n 1, 1) := by decide +kernel
theorem dX2_become_77 : decode cX2_become 77 = .ok (.getfield 16, 3) := by decide +kernel
theorem dX2_become_80 : decode cX2_become 80 = .ok (.iload_n 2, 1) := by decide +kernel
theorem dX2_become_81 : decode cX2_become 81 = .ok (.aaload, 1) := by decide +kernel
theorem dX2_become_82 : decode cX2_become 82 = .ok (.iconst 0, 1) := by decide +kernel
theorem dX2_become_83 : decode cX2_become 83 = .ok (.aload_n 0, 1) := by decide +kernel
theorem dX2_become_84 : decode cX2_become 84 = .ok (.getfield 16, 3) := by decide +kernel
theorem dX2_become_87 : decode cX2_become 87 = .ok (.iload_n 2, 1) := by decide +kernel
theorem dX2_become_88 : decode cX2_become 88 = .ok (.aaload, 1) := by decide +kernel
theorem dX2_become_89 : decode cX2_become 89 = .ok (.iconst 0, 1) := by decide +kernel
theorem dX2_become_90 : decode cX2_become 90 = .ok (.iconst 4, 1) := by decide +kernel
theorem dX2_become_91 : decode cX2_become 91 = .ok (.invokestatic 40, 3) := by decide +kernel
theorem dX2_become_94 : decode cX2_become 94 = .ok (.iinc 2 1, 3) := by decide +kernel
theorem dX2_become_97 : decode cX2_become 97 = .ok (.goto (-29), 3) := by decide +kernel
theorem dX2_become_100 : decode cX2_become 100 = .ok (.return_, 1) := by decide +kernel
set_option maxRecDepth 20000 in
theorem ggX2_addUser_X2_allChannels : GoodIn wsX2_addUser wsX2_allChannels := goodIn_r _ [7, 8, 9, 10, 11, 12, 13, 14] (by decide +kernel) (by decide +kernel)
set_option maxRecDepth 20000 in
theorem gX2_addUser_X2_allChannels : GoodIn wsX2_addUser (wsV RX2 46 RX2 yX2_allChannels wsX2_allChannels) := goodIn_app (goodIn_of _ (by decide +kernel)) ggX2_addUser_X2_allChannels
theorem dX2_addUser_0 : decode cX2_addUser 0 = .ok (.aload_n 0, 1) := by decide +kernel
theorem dX2_addUser_1 : decode cX2_addUser 1 = .ok (.getfield 11, 3) := by decide +kernel
theorem dX2_addUser_4 : decode cX2_addUser 4 = .ok (.aload_n 0, 1) := by decide +kernel
theorem dX2_addUser_5 : decode cX2_addUser 5 = .ok (.getfield 34, 3) := by decide +kernel
theorem dX2_addUser_8 : decode cX2_addUser 8 = .ok (.aaload, 1) := by decide +kernel
theorem dX2_addUser_9 : decode cX2_addUser 9 = .ok (.astore 5, 2) := by decide +kernel
theorem dX2_addUser_11 : decode cX2_addUser 11 = .ok (.aload 5, 2) := by decide +kernel
theorem dX2_addUser_13 : decode cX2_addUser 13 = .ok (.iconst 0, 1) := by decide +kernel
theorem dX2_addUser_14 : decode cX2_addUser 14 = .ok (.iload_n 1, 1) := by decide +kernel
theorem dX2_addUser_15 : decode cX2_addUser 15 = .ok (.iastore, 1) := by decide +kernel
theorem dX2_addUser_16 : decode cX2_addUser 16 = .ok (.aload 5, 2) := by decide +kernel
theorem dX2_addUser_18 : decode cX2_addUser 18 = .ok (.iconst 1, 1) := by decide +kernel
theorem dX2_addUser_19 : decode cX2_addUser 19 = .ok (.iload_n 2, 1) := by decide +kernel
theorem dX2_addUser_20 : decode cX2_addUser 20 = .ok (.iastore, 1) := by decide +kernel
theorem dX2_addUser_21 : decode cX2_addUser 21 = .ok (.aload 5, 2) := by decide +kernel
theorem dX2_addUser_23 : decode cX2_addUser 23 = .ok (.iconst 2, 1) := by decide +kernel
theorem dX2_addUser_24 : decode cX2_addUser 24 = .ok (.iload_n 3, 1) := by decide +kernel
theorem dX2_addUser_25 : decode cX2_addUser 25 = .ok (.iastore, 1) := by decide +kernel
theorem dX2_addUser_26 : decode cX2_addUser 26 = .ok (.aload 5, 2) := by decide +kernel
theorem dX2_addUser_28 : decode cX2_addUser 28 = .ok (.iconst 3, 1) := by decide +kernel
theorem dX2_addUser_29 : decode cX2_addUser 29 = .ok (.iload 4, 2) := by decide +kernel
theorem dX2_addUser_31 : decode cX2_addUser 31 = .ok (.iastore, 1) := by decide +kernel
theorem dX2_addUser_32 : decode cX2_addUser 32 = .ok (.aload 5, 2) := by decide +kernel
theorem dX2_addUser_34 : decode cX2_addUser 34 = .ok (.iconst 4, 1) := by decide +kernel
theorem dX2_addUser_35 : decode cX2_addUser 35 = .ok (.aload_n 0, 1) := by decide +kernel
theorem dX2_addUser_36 : decode cX2_addUser 36 = .ok (.invokevirtual 46, 3) := by decide +kernel
theorem dX2_addUser_39 : decode cX2_addUser 39 = .ok (.iastore, 1) := by decide +kernel
theorem dX2_addUser_40 : decode cX2_addUser 40 = .ok (.aload_n 0, 1) := by decide +kernel
theorem dX2_addUser_41 : decode cX2_addUser 41 = .ok (.dup, 1) := by decide +kernel
theorem dX2_addUser_42 : decode cX2_addUser 42 = .ok (.getfield 34, 3) := by decide +kernel
theorem dX2_addUser_45 : decode cX2_addUser 45 = .ok (.iconst 1, 1) := by decide +kernel
theorem dX2_addUser_46 : decode cX2_addUser 46 = .ok (.iadd, 1) := by decide +kernel
theorem dX2_addUser_47 : decode cX2_addUser 47 = .ok (.putfield 34, 3) := by decide +kernel
theorem dX2_addUser_50 : decode cX2_addUser 50 = .ok (.return_, 1) := by decide +kernel
theorem dX2_addSpell_0 : decode cX2_addSpell 0 = .ok (.aload_n 0, 1) := by decide +kernel
theorem dX2_addSpell_1 : decode cX2_addSpell 1 = .ok (.getfield 16, 3) := by decide +kernel
theorem dX2_addSpell_4 : decode cX2_addSpell 4 = .ok (.aload_n 0, 1) := by decide +kernel
theorem dX2_addSpell_5 : decode cX2_addSpell 5 = .ok (.getfield 37, 3) := by decide +kernel
theorem dX2_addSpell_8 : decode cX2_addSpell 8 = .ok (.aaload, 1) := by decide +kernel
theorem dX2_addSpell_9 : decode cX2_addSpell 9 = .ok (.astore 5, 2) := by decide +kernel
theorem dX2_addSpell_11 : decode cX2_addSpell 11 = .ok (.aload 5, 2) := by decide +kernel
theorem dX2_addSpell_13 : decode cX2_addSpell 13 = .ok (.iconst 0, 1) := by decide +kernel
theorem dX2_addSpell_14 : decode cX2_addSpell 14 = .ok (.iload_n 1, 1) := by decide +kernel
theorem dX2_addSpell_15 : decode cX2_addSpell 15 = .ok (.iastore, 1) := by decide +kernel
theorem dX2_addSpell_16 : decode cX2_addSpell 16 = .ok (.aload 5, 2) := by decide +kernel
theorem dX2_addSpell_18 : decode cX2_addSpell 18 = .ok (.iconst 1, 1) := by decide +kernel
theorem dX2_addSpell_19 : decode cX2_addSpell 19 = .ok (.iload_n 2, 1) := by decide +kernel
theorem dX2_addSpell_20 : decode cX2_addSpell 20 = .ok (.iastore, 1) := by decide +kernel
theorem dX2_addSpell_21 : decode cX2_addSpell 21 = .ok (.aload 5, 2) := by decide +kernel
theorem dX2_addSpell_23 : decode cX2_addSpell 23 = .ok (.iconst 2, 1) := by decide +kernel
theorem dX2_addSpell_24 : decode cX2_addSpell 24 = .ok (.iload_n 3, 1) := by decide +kernel
theorem dX2_addSpell_25 : decode cX2_addSpell 25 = .ok (.iastore, 1) := by decide +kernel
theorem dX2_addSpell_26 : decode cX2_addSpell 26 = .ok (.aload 5, 2) := by decide +kernel
theorem dX2_addSpell_28 : decode cX2_addSpell 28 = .ok (.iconst 3, 1) := by decide +kernel
theorem dX2_addSpell_29 : decode cX2_addSpell 29 = .ok (.iload 4, 2) := by decide +kernel
theorem dX2_addSpell_31 : decode cX2_addSpell 31 = .ok (.iastore, 1) := by decide +kernel
theorem dX2_addSpell_32 : decode cX2_addSpell 32 = .ok (.aload_n 0, 1) := by decide +kernel
theorem dX2_addSpell_33 : decode cX2_addSpell 33 = .ok (.dup, 1) := by decide +kernel
theorem dX2_addSpell_34 : decode cX2_addSpell 34 = .ok (.getfield 37, 3) := by decide +kernel
theorem dX2_addSpell_37 : decode cX2_addSpell 37 = .ok (.iconst 1, 1) := by decide +kernel
theorem dX2_addSpell_38 : decode cX2_addSpell 38 = .ok (.iadd, 1) := by decide +kernel
theorem dX2_addSpell_39 : decode cX2_addSpell 39 = .ok (.putfield 37, 3) := by decide +kernel
theorem dX2_addSpell_42 : decode cX2_addSpell 42 = .ok (.return_, 1) := by decide +kernel
set_option maxRecDepth 20000 in
theorem ggX2_drawLots_X2_allChannels : GoodIn wsX2_drawLots wsX2_allChannels := goodIn_r _ [9, 10, 16, 17, 18, 19, 20, 21] (by decide +kernel) (by decide +kernel)
set_option maxRecDepth 20000 in
theorem gX2_drawLots_X2_allChannels : GoodIn wsX2_drawLots (wsV RX2 46 RX2 yX2_allChannels wsX2_allChannels) := goodIn_app (goodIn_of _ (by decide +kernel)) ggX2_drawLots_X2_allChannels
set_option maxRecDepth 20000 in
theorem ggX2_drawLots_X2_nextLot : GoodIn wsX2_drawLots wsX2_nextLot := goodIn_r _ [13, 14, 15] (by decide +kernel) (by decide +kernel)
set_option maxRecDepth 20000 in
theorem gX2_drawLots_X2_nextLot : GoodIn wsX2_drawLots (va_wsS RX2 50 yX2_nextLot wsX2_nextLot) := goodIn_app (goodIn_of _ (by decide +kernel)) ggX2_drawLots_X2_nextLot
theorem dX2_drawLots_0 : decode cX2_drawLots 0 = .ok (.iload_n 1, 1) := by decide +kernel
theorem dX2_drawLots_1 : decode cX2_drawLots 1 = .ok (.i2l, 1) := by decide +kernel
theorem dX2_drawLots_2 : decode cX2_drawLots 2 = .ok (.lstore_n 2, 1) := by decide +kernel
theorem dX2_drawLots_3 : decode cX2_drawLots 3 = .ok (.aload_n 0, 1) := by decide +kernel
theorem dX2_drawLots_4 : decode cX2_drawLots 4 = .ok (.invokevirtual 46, 3) := by decide +kernel
theorem dX2_drawLots_7 : decode cX2_drawLots 7 = .ok (.iconst 1, 1) := by decide +kernel
theorem dX2_drawLots_8 : decode cX2_drawLots 8 = .ok (.iadd, 1) := by decide +kernel
theorem dX2_drawLots_9 : decode cX2_drawLots 9 = .ok (.istore 4, 2) := by decide +kernel
theorem dX2_drawLots_11 : decode cX2_drawLots 11 = .ok (.iconst 0, 1) := by decide +kernel
theorem dX2_drawLots_12 : decode cX2_drawLots 12 = .ok (.istore 5, 2) := by decide +kernel
theorem dX2_drawLots_14 : decode cX2_drawLots 14 = .ok (.iload 5, 2) := by decide +kernel
theorem dX2_drawLots_16 : decode cX2_drawLots 16 = .ok (.aload_n 0, 1) := by decide +kernel
theorem dX2_drawLots_17 : decode cX2_drawLots 17 = .ok (.getfield 34, 3) := by decide +kernel
theorem dX2_drawLots_20 : decode cX2_drawLots 20 = .ok (.if_icmp .ge 78, 3) := by decide +kernel
theorem dX2_drawLots_23 : decode cX2_drawLots 23 = .ok (.aload_n 0, 1) := by decide +kernel
theorem dX2_drawLots_24 : decode cX2_drawLots 24 = .ok (.getfield 11, 3) := by decide +kernel
theorem dX2_drawLots_27 : decode cX2_drawLots 27 = .ok (.iload 5, 2) := by decide +kernel
theorem dX2_drawLots_29 : decode cX2_drawLots 29 = .ok (.aaload, 1) := by decide +kernel
theorem dX2_drawLots_30 : decode cX2_drawLots 30 = .ok (.astore 6, 2) := by decide +kernel
theorem dX2_drawLots_32 : decode cX2_drawLots 32 = .ok (.lload_n 2, 1) := by decide +kernel
theorem dX2_drawLots_33 : decode cX2_drawLots 33 = .ok (.invokestatic 50, 3) := by decide +kernel
theorem dX2_drawLots_36 : decode cX2_drawLots 36 = .ok (.lstore_n 2, 1) := by decide +kernel
theorem dX2_drawLots_37 : decode cX2_drawLots 37 = .ok (.aload 6, 2) := by decide +kernel
theorem dX2_drawLots_39 : decode cX2_drawLots 39 = .ok (.iconst 4, 1) := by decide +kernel
theorem dX2_drawLots_40 : decode cX2_drawLots 40 = .ok (.lload_n 2, 1) := by decide +kernel
theorem dX2_drawLots_41 : decode cX2_drawLots 41 = .ok (.iload 4, 2) := by decide +kernel
theorem dX2_drawLots_43 : decode cX2_drawLots 43 = .ok (.i2l, 1) := by decide +kernel
theorem dX2_drawLots_44 : decode cX2_drawLots 44 = .ok (.lrem, 1) := by decide +kernel
theorem dX2_drawLots_45 : decode cX2_drawLots 45 = .ok (.l2i, 1) := by decide +kernel
theorem dX2_drawLots_46 : decode cX2_drawLots 46 = .ok (.iastore, 1) := by decide +kernel
theorem dX2_drawLots_47 : decode cX2_drawLots 47 = .ok (.lload_n 2, 1) := by decide +kernel
theorem dX2_drawLots_48 : decode cX2_drawLots 48 = .ok (.invokestatic 50, 3) := by decide +kernel
theorem dX2_drawLots_51 : decode cX2_drawLots 51 = .ok (.lstore_n 2, 1) := by decide +kernel
theorem dX2_drawLots_52 : decode cX2_drawLots 52 = .ok (.aload 6, 2) := by decide +kernel
theorem dX2_drawLots_54 : decode cX2_drawLots 54 = .ok (.iconst 1, 1) := by decide +kernel
theorem dX2_drawLots_55 : decode cX2_drawLots 55 = .ok (.lload_n 2, 1) := by decide +kernel
theorem dX2_drawLots_56 : decode cX2_drawLots 56 = .ok (.ldc2_w 54, 3) := by decide +kernel
theorem dX2_drawLots_59 : decode cX2_drawLots 59 = .ok (.lrem, 1) := by decide +kernel
theorem dX2_drawLots_60 : decode cX2_drawLots 60 = .ok (.l2i, 1) := by decide +kernel
theorem dX2_drawLots_61 : decode cX2_drawLots 61 = .ok (.iastore, 1) := by decide +kernel
theorem dX2_drawLots_62 : decode cX2_drawLots 62 = .ok (.lload_n 2, 1) := by decide +kernel
theorem dX2_drawLots_63 : decode cX2_drawLots 63 = .ok (.invokestatic 50, 3) := by decide +kernel
theorem dX2_drawLots_66 : decode cX2_drawLots 66 = .ok (.lstore_n 2, 1) := by decide +kernel
theorem dX2_drawLots_67 : decode cX2_drawLots 67 = .ok (.aload 6, 2) := by decide +kernel
theorem dX2_drawLots_69 : decode cX2_drawLots 69 = .ok (.iconst 2, 1) := by decide +kernel
theorem dX2_drawLots_70 : decode cX2_drawLots 70 = .ok (.lload_n 2, 1) := by decide +kernel
theorem dX2_drawLots_71 : decode cX2_drawLots 71 = .ok (.ldc2_w 54, 3) := by decide +kernel
theorem dX2_drawLots_74 : decode cX2_drawLots 74 = .ok (.lrem, 1) := by decide +kernel
theorem dX2_drawLots_75 : decode cX2_drawLots 75 = .ok (.l2i, 1) := by decide +kernel
theorem dX2_drawLots_76 : decode cX2_drawLots 76 = .ok (.iastore, 1) := by decide +kernel
theorem dX2_drawLots_77 : decode cX2_drawLots 77 = .ok (.lload_n 2, 1) := by decide +kernel
theorem dX2_drawLots_78 : decode cX2_drawLots 78 = .ok (.invokestatic 50, 3) := by decide +kernel
theorem dX2_drawLots_81 : decode cX2_drawLots 81 = .ok (.lstore_n 2, 1) := by decide +kernel
theorem dX2_drawLots_82 : decode cX2_drawLots 82 = .ok (.aload 6, 2) := by decide +kernel
theorem dX2_drawLots_84 : decode cX2_drawLots 84 = .ok (.iconst 3, 1) := by decide +kernel
theorem dX2_drawLots_85 : decode cX2_drawLots 85 = .ok (.lload_n 2, 1) := by decide +kernel
theorem dX2_drawLots_86 : decode cX2_drawLots 86 = .ok (.ldc2_w 56, 3) := by decide +kernel
theorem dX2_drawLots_89 : decode cX2_drawLots 89 = .ok (.lrem, 1) := by decide +kernel
theorem dX2_drawLots_90 : decode cX2_drawLots 90 = .ok (.l2i, 1) := by decide +kernel
theorem dX2_drawLots_91 : decode cX2_drawLots 91 = .ok (.iastore, 1) := by decide +kernel
theorem dX2_drawLots_92 : decode cX2_drawLots 92 = .ok (.iinc 5 1, 3) := by decide +kernel
theorem dX2_drawLots_95 : decode cX2_drawLots 95 = .ok (.goto (-81), 3) := by decide +kernel
theorem dX2_drawLots_98 : decode cX2_drawLots 98 = .ok (.return_, 1) := by decide +kernel
theorem dX2_allChannels_0 : decode cX2_allChannels 0 = .ok (.iconst 1, 1) := by decide +kernel
theorem dX2_allChannels_1 : decode cX2_allChannels 1 = .ok (.aload_n 0, 1) := by decide +kernel
theorem dX2_allChannels_2 : decode cX2_allChannels 2 = .ok (.getfield 23, 3) := by decide +kernel
theorem dX2_allChannels_5 : decode cX2_allChannels 5 = .ok (.ishl, 1) := by decide +kernel
theorem dX2_allChannels_6 : decode cX2_allChannels 6 = .ok (.iconst 1, 1) := by decide +kernel
theorem dX2_allChannels_7 : decode cX2_allChannels 7 = .ok (.isub, 1) := by decide +kernel
theorem dX2_allChannels_8 : decode cX2_allChannels 8 = .ok (.ireturn, 1) := by decide +kernel
set_option maxRecDepth 20000 in
theorem ggX2_commonChannels_X2_allChannels : GoodIn wsX2_commonChannels wsX2_allChannels := goodIn_r _ [7, 8, 9, 10, 11, 12, 13, 14] (by decide +kernel) (by decide +kernel)
set_option maxRecDepth 20000 in
theorem gX2_commonChannels_X2_allChannels : GoodIn wsX2_commonChannels (wsV RX2 46 RX2 yX2_allChannels wsX2_allChannels) := goodIn_app (goodIn_of _ (by decide +kernel)) ggX2_commonChannels_X2_allChannels
theorem dX2_commonChannels_0 : decode cX2_commonChannels 0 = .ok (.aload_n 0, 1) := by decide +kernel
theorem dX2_commonChannels_1 : decode cX2_commonChannels 1 = .ok (.invokevirtual 46, 3) := by decide +kernel
theorem dX2_commonChannels_4 : decode cX2_commonChannels 4 = .ok (.istore_n 1, 1) := by decide +kernel
theorem dX2_commonChannels_5 : decode cX2_commonChannels 5 = .ok (.iconst 0, 1) := by decide +kernel
theorem dX2_commonChannels_6 : decode cX2_commonChannels 6 = .ok (.istore_n 2, 1) := by decide +kernel
theorem dX2_commonChannels_7 : decode cX2_commonChannels 7 = .ok (.iload_n 2, 1) := by decide +kernel
theorem dX2_commonChannels_8 : decode cX2_commonChannels 8 = .ok (.aload_n 0, 1) := by decide +kernel
theorem dX2_commonChannels_9 : decode cX2_commonChannels 9 = .ok (.getfield 34, 3) := by decide +kernel
theorem dX2_commonChannels_12 : decode cX2_commonChannels 12 = .ok (.if_icmp .ge 20, 3) := by decide +kernel
theorem dX2_commonChannels_15 : decode cX2_commonChannels 15 = .ok (.iload_n 1, 1) := by decide +kernel
theorem dX2_commonChannels_16 : decode cX2_commonChannels 16 = .ok (.aload_n 0, 1) := by decide +kernel
theorem dX2_commonChannels_17 : decode cX2_commonChannels 17 = .ok (.getfield 11, 3) := by decide +kernel
theorem dX2_commonChannels_20 : decode cX2_commonChannels 20 = .ok (.iload_n 2, 1) := by decide +kernel
theorem dX2_commonChannels_21 : decode cX2_commonChannels 21 = .ok (.aaload, 1) := by decide +kernel
theorem dX2_commonChannels_22 : decode cX2_commonChannels 22 = .ok (.iconst 4, 1) := by decide +kernel
theorem dX2_commonChannels_23 : decode cX2_commonChannels 23 = .ok (.iaload, 1) := by decide +kernel
theorem dX2_commonChannels_24 : decode cX2_commonChannels 24 = .ok (.iand, 1) := by decide +kernel
theorem dX2_commonChannels_25 : decode cX2_commonChannels 25 = .ok (.istore_n 1, 1) := by decide +kernel
theorem dX2_commonChannels_26 : decode cX2_commonChannels 26 = .ok (.iinc 2 1, 3) := by decide +kernel
theorem dX2_commonChannels_29 : decode cX2_commonChannels 29 = .ok (.goto (-22), 3) := by decide +kernel
theorem dX2_commonChannels_32 : decode cX2_commonChannels 32 = .ok (.iload_n 1, 1) := by decide +kernel
theorem dX2_commonChannels_33 : decode cX2_commonChannels 33 = .ok (.ireturn, 1) := by decide +kernel
theorem dX2_clockOf_0 : decode cX2_clockOf 0 = .ok (.iload_n 2, 1) := by decide +kernel
theorem dX2_clockOf_1 : decode cX2_clockOf 1 = .ok (.aload_n 0, 1) := by decide +kernel
theorem dX2_clockOf_2 : decode cX2_clockOf 2 = .ok (.getfield 11, 3) := by decide +kernel
theorem dX2_clockOf_5 : decode cX2_clockOf 5 = .ok (.iload_n 1, 1) := by decide +kernel
theorem dX2_clockOf_6 : decode cX2_clockOf 6 = .ok (.aaload, 1) := by decide +kernel
theorem dX2_clockOf_7 : decode cX2_clockOf 7 = .ok (.iconst 3, 1) := by decide +kernel
theorem dX2_clockOf_8 : decode cX2_clockOf 8 = .ok (.iaload, 1) := by decide +kernel
theorem dX2_clockOf_9 : decode cX2_clockOf 9 = .ok (.isub, 1) := by decide +kernel
theorem dX2_clockOf_10 : decode cX2_clockOf 10 = .ok (.ireturn, 1) := by decide +kernel
set_option maxRecDepth 20000 in
theorem ggX2_aim_X2_aimOfJumpAndStay : GoodIn wsX2_aim wsX2_aimOfJumpAndStay := goodIn_r _ [8, 3, 2, 9, 10, 11, 12, 13, 14] (by decide +kernel) (by decide +kernel)
set_option maxRecDepth 20000 in
theorem gX2_aim_X2_aimOfJumpAndStay : GoodIn wsX2_aim (wsV RX2 58 RX2 yX2_aimOfJumpAndStay wsX2_aimOfJumpAndStay) := goodIn_app (goodIn_of _ (by decide +kernel)) ggX2_aim_X2_aimOfJumpAndStay
theorem dX2_aim_0 : decode cX2_aim 0 = .ok (.aload_n 0, 1) := by decide +kernel
theorem dX2_aim_1 : decode cX2_aim 1 = .ok (.getfield 11, 3) := by decide +kernel
theorem dX2_aim_4 : decode cX2_aim 4 = .ok (.iload_n 1, 1) := by decide +kernel
theorem dX2_aim_5 : decode cX2_aim 5 = .ok (.aaload, 1) := by decide +kernel
theorem dX2_aim_6 : decode cX2_aim 6 = .ok (.astore_n 3, 1) := by decide +kernel
theorem dX2_aim_7 : decode cX2_aim 7 = .ok (.aload_n 3, 1) := by decide +kernel
theorem dX2_aim_8 : decode cX2_aim 8 = .ok (.iconst 1, 1) := by decide +kernel
theorem dX2_aim_9 : decode cX2_aim 9 = .ok (.iaload, 1) := by decide +kernel
theorem dX2_aim_10 : decode cX2_aim 10 = .ok (.istore 4, 2) := by decide +kernel
theorem dX2_aim_12 : decode cX2_aim 12 = .ok (.iconst 1, 1) := by decide +kernel
theorem dX2_aim_13 : decode cX2_aim 13 = .ok (.aload_n 3, 1) := by decide +kernel
theorem dX2_aim_14 : decode cX2_aim 14 = .ok (.iconst 2, 1) := by decide +kernel
theorem dX2_aim_15 : decode cX2_aim 15 = .ok (.iaload, 1) := by decide +kernel
theorem dX2_aim_16 : decode cX2_aim 16 = .ok (.aload_n 0, 1) := by decide +kernel
theorem dX2_aim_17 : decode cX2_aim 17 = .ok (.getfield 23, 3) := by decide +kernel
theorem dX2_aim_20 : decode cX2_aim 20 = .ok (.irem, 1) := by decide +kernel
theorem dX2_aim_21 : decode cX2_aim 21 = .ok (.iadd, 1) := by decide +kernel
theorem dX2_aim_22 : decode cX2_aim 22 = .ok (.istore 5, 2) := by decide +kernel
theorem dX2_aim_24 : decode cX2_aim 24 = .ok (.aload_n 3, 1) := by decide +kernel
theorem dX2_aim_25 : decode cX2_aim 25 = .ok (.iconst 0, 1) := by decide +kernel
theorem dX2_aim_26 : decode cX2_aim 26 = .ok (.iaload, 1) := by decide +kernel
theorem dX2_aim_27 : decode cX2_aim 27 = .ok (.tableswitch 53 0 2 #[25, 35, 45], 25) := by decide +kernel
theorem dX2_aim_52 : decode cX2_aim 52 = .ok (.aload_n 0, 1) := by decide +kernel
theorem dX2_aim_53 : decode cX2_aim 53 = .ok (.iload 4, 2) := by decide +kernel
theorem dX2_aim_55 : decode cX2_aim 55 = .ok (.iload 5, 2) := by decide +kernel
theorem dX2_aim_57 : decode cX2_aim 57 = .ok (.iload_n 2, 1) := by decide +kernel
theorem dX2_aim_58 : decode cX2_aim 58 = .ok (.invokevirtual 58, 3) := by decide +kernel
theorem dX2_aim_61 : decode cX2_aim 61 = .ok (.ireturn, 1) := by decide +kernel
theorem dX2_aim_62 : decode cX2_aim 62 = .ok (.iload 4, 2) := by decide +kernel
theorem dX2_aim_64 : decode cX2_aim 64 = .ok (.iload_n 2, 1) := by decide +kernel
theorem dX2_aim_65 : decode cX2_aim 65 = .ok (.iadd, 1) := by decide +kernel
theorem dX2_aim_66 : decode cX2_aim 66 = .ok (.aload_n 0, 1) := by decide +kernel
theorem dX2_aim_67 : decode cX2_aim 67 = .ok (.getfield 23, 3) := by decide +kernel
theorem dX2_aim_70 : decode cX2_aim 70 = .ok (.irem, 1) := by decide +kernel
theorem dX2_aim_71 : decode cX2_aim 71 = .ok (.ireturn, 1) := by decide +kernel
theorem dX2_aim_72 : decode cX2_aim 72 = .ok (.iload 4, 2) := by decide +kernel
theorem dX2_aim_74 : decode cX2_aim 74 = .ok (.aload_n 0, 1) := by decide +kernel
theorem dX2_aim_75 : decode cX2_aim 75 = .ok (.getfield 23, 3) := by decide +kernel
theorem dX2_aim_78 : decode cX2_aim 78 = .ok (.irem, 1) := by decide +kernel
theorem dX2_aim_79 : decode cX2_aim 79 = .ok (.ireturn, 1) := by decide +kernel
theorem dX2_aim_80 : decode cX2_aim 80 = .ok (.iload 4, 2) := by decide +kernel
theorem dX2_aim_82 : decode cX2_aim 82 = .ok (.iload_n 2, 1) := by decide +kernel
theorem dX2_aim_83 : decode cX2_aim 83 = .ok (.iload 5, 2) := by decide +kernel
theorem dX2_aim_85 : decode cX2_aim 85 = .ok (.imul, 1) := by decide +kernel
theorem dX2_aim_86 : decode cX2_aim 86 = .ok (.iadd, 1) := by decide +kernel
theorem dX2_aim_87 : decode cX2_aim 87 = .ok (.aload_n 0, 1) := by decide +kernel
theorem dX2_aim_88 : decode cX2_aim 88 = .ok (.getfield 31, 3) := by decide +kernel
theorem dX2_aim_91 : decode cX2_aim 91 = .ok (.irem, 1) := by decide +kernel
theorem dX2_aim_92 : decode cX2_aim 92 = .ok (.aload_n 0, 1) := by decide +kernel
theorem dX2_aim_93 : decode cX2_aim 93 = .ok (.getfield 23, 3) := by decide +kernel
theorem dX2_aim_96 : decode cX2_aim 96 = .ok (.irem, 1) := by decide +kernel
theorem dX2_aim_97 : decode cX2_aim 97 = .ok (.ireturn, 1) := by decide +kernel
theorem dX2_aimOfJumpAndStay_0 : decode cX2_aimOfJumpAndStay 0 = .ok (.iload_n 3, 1) := by decide +kernel
theorem dX2_aimOfJumpAndStay_1 : decode cX2_aimOfJumpAndStay 1 = .ok (.iconst 3, 1) := by decide +kernel
theorem dX2_aimOfJumpAndStay_2 : decode cX2_aimOfJumpAndStay 2 = .ok (.aload_n 0, 1) := by decide +kernel
theorem dX2_aimOfJumpAndStay_3 : decode cX2_aimOfJumpAndStay 3 = .ok (.getfield 31, 3) := by decide +kernel
theorem dX2_aimOfJumpAndStay_6 : decode cX2_aimOfJumpAndStay 6 = .ok (.imul, 1) := by decide +kernel
theorem dX2_aimOfJumpAndStay_7 : decode cX2_aimOfJumpAndStay 7 = .ok (.idiv, 1) := by decide +kernel
theorem dX2_aimOfJumpAndStay_8 : decode cX2_aimOfJumpAndStay 8 = .ok (.istore 4, 2) := by decide +kernel
theorem dX2_aimOfJumpAndStay_10 : decode cX2_aimOfJumpAndStay 10 = .ok (.iload_n 3, 1) := by decide +kernel
theorem dX2_aimOfJumpAndStay_11 : decode cX2_aimOfJumpAndStay 11 = .ok (.iconst 3, 1) := by decide +kernel
theorem dX2_aimOfJumpAndStay_12 : decode cX2_aimOfJumpAndStay 12 = .ok (.aload_n 0, 1) := by decide +kernel
theorem dX2_aimOfJumpAndStay_13 : decode cX2_aimOfJumpAndStay 13 = .ok (.getfield 31, 3) := by decide +kernel
theorem dX2_aimOfJumpAndStay_16 : decode cX2_aimOfJumpAndStay 16 = .ok (.imul, 1) := by decide +kernel
theorem dX2_aimOfJumpAndStay_17 : decode cX2_aimOfJumpAndStay 17 = .ok (.irem, 1) := by decide +kernel
theorem dX2_aimOfJumpAndStay_18 : decode cX2_aimOfJumpAndStay 18 = .ok (.istore 5, 2) := by decide +kernel
theorem dX2_aimOfJumpAndStay_20 : decode cX2_aimOfJumpAndStay 20 = .ok (.iconst 1, 1) := by decide +kernel
theorem dX2_aimOfJumpAndStay_21 : decode cX2_aimOfJumpAndStay 21 = .ok (.iload_n 2, 1) := by decide +kernel
theorem dX2_aimOfJumpAndStay_22 : decode cX2_aimOfJumpAndStay 22 = .ok (.iconst 1, 1) := by decide +kernel
theorem dX2_aimOfJumpAndStay_23 : decode cX2_aimOfJumpAndStay 23 = .ok (.isub, 1) := by decide +kernel
theorem dX2_aimOfJumpAndStay_24 : decode cX2_aimOfJumpAndStay 24 = .ok (.iload 4, 2) := by decide +kernel
theorem dX2_aimOfJumpAndStay_26 : decode cX2_aimOfJumpAndStay 26 = .ok (.aload_n 0, 1) := by decide +kernel
theorem dX2_aimOfJumpAndStay_27 : decode cX2_aimOfJumpAndStay 27 = .ok (.getfield 31, 3) := by decide +kernel
theorem dX2_aimOfJumpAndStay_30 : decode cX2_aimOfJumpAndStay 30 = .ok (.idiv, 1) := by decide +kernel
theorem dX2_aimOfJumpAndStay_31 : decode cX2_aimOfJumpAndStay 31 = .ok (.iadd, 1) := by decide +kernel
theorem dX2_aimOfJumpAndStay_32 : decode cX2_aimOfJumpAndStay 32 = .ok (.aload_n 0, 1) := by decide +kernel
theorem dX2_aimOfJumpAndStay_33 : decode cX2_aimOfJumpAndStay 33 = .ok (.getfield 23, 3) := by decide +kernel
theorem dX2_aimOfJumpAndStay_36 : decode cX2_aimOfJumpAndStay 36 = .ok (.irem, 1) := by decide +kernel
theorem dX2_aimOfJumpAndStay_37 : decode cX2_aimOfJumpAndStay 37 = .ok (.iadd, 1) := by decide +kernel
theorem dX2_aimOfJumpAndStay_38 : decode cX2_aimOfJumpAndStay 38 = .ok (.istore 6, 2) := by decide +kernel
theorem dX2_aimOfJumpAndStay_40 : decode cX2_aimOfJumpAndStay 40 = .ok (.iload 5, 2) := by decide +kernel
theorem dX2_aimOfJumpAndStay_42 : decode cX2_aimOfJumpAndStay 42 = .ok (.iconst 2, 1) := by decide +kernel
theorem dX2_aimOfJumpAndStay_43 : decode cX2_aimOfJumpAndStay 43 = .ok (.aload_n 0, 1) := by decide +kernel
theorem dX2_aimOfJumpAndStay_44 : decode cX2_aimOfJumpAndStay 44 = .ok (.getfield 31, 3) := by decide +kernel
theorem dX2_aimOfJumpAndStay_47 : decode cX2_aimOfJumpAndStay 47 = .ok (.imul, 1) := by decide +kernel
theorem dX2_aimOfJumpAndStay_48 : decode cX2_aimOfJumpAndStay 48 = .ok (.if_icmp .ge 24, 3) := by decide +kernel
theorem dX2_aimOfJumpAndStay_51 : decode cX2_aimOfJumpAndStay 51 = .ok (.iload_n 1, 1) := by decide +kernel
theorem dX2_aimOfJumpAndStay_52 : decode cX2_aimOfJumpAndStay 52 = .ok (.iload 4, 2) := by decide +kernel
theorem dX2_aimOfJumpAndStay_54 : decode cX2_aimOfJumpAndStay 54 = .ok (.iadd, 1) := by decide +kernel
theorem dX2_aimOfJumpAndStay_55 : decode cX2_aimOfJumpAndStay 55 = .ok (.iload 5, 2) := by decide +kernel
theorem dX2_aimOfJumpAndStay_57 : decode cX2_aimOfJumpAndStay 57 = .ok (.iload 6, 2) := by decide +kernel
theorem dX2_aimOfJumpAndStay_59 : decode cX2_aimOfJumpAndStay 59 = .ok (.imul, 1) := by decide +kernel
theorem dX2_aimOfJumpAndStay_60 : decode cX2_aimOfJumpAndStay 60 = .ok (.iadd, 1) := by decide +kernel
theorem dX2_aimOfJumpAndStay_61 : decode cX2_aimOfJumpAndStay 61 = .ok (.aload_n 0, 1) := by decide +kernel
theorem dX2_aimOfJumpAndStay_62 : decode cX2_aimOfJumpAndStay 62 = .ok (.getfield 31, 3) := by decide +kernel
theorem dX2_aimOfJumpAndStay_65 : decode cX2_aimOfJumpAndStay 65 = .ok (.irem, 1) := by decide +kernel
theorem dX2_aimOfJumpAndStay_66 : decode cX2_aimOfJumpAndStay 66 = .ok (.aload_n 0, 1) := by decide +kernel
theorem dX2_aimOfJumpAndStay_67 : decode cX2_aimOfJumpAndStay 67 = .ok (.getfield 23, 3) := by decide +kernel
theorem dX2_aimOfJumpAndStay_70 : decode cX2_aimOfJumpAndStay 70 = .ok (.irem, 1) := by decide +kernel
theorem dX2_aimOfJumpAndStay_71 : decode cX2_aimOfJumpAndStay 71 = .ok (.ireturn, 1) := by decide +kernel
theorem dX2_aimOfJumpAndStay_72 : decode cX2_aimOfJumpAndStay 72 = .ok (.iload 6, 2) := by decide +kernel
theorem dX2_aimOfJumpAndStay_74 : decode cX2_aimOfJumpAndStay 74 = .ok (.aload_n 0, 1) := by decide +kernel
theorem dX2_aimOfJumpAndStay_75 : decode cX2_aimOfJumpAndStay 75 = .ok (.getfield 23, 3) := by decide +kernel
theorem dX2_aimOfJumpAndStay_78 : decode cX2_aimOfJumpAndStay 78 = .ok (.irem, 1) := by decide +kernel
theorem dX2_aimOfJumpAndStay_79 : decode cX2_aimOfJumpAndStay 79 = .ok (.ireturn, 1) := by decide +kernel
set_option maxRecDepth 20000 in
theorem ggX2_placeByClock_X2_aim : GoodIn wsX2_placeByClock wsX2_aim := goodIn_r _ [6, 1, 7, 8, 9, 10, 11, 5, 12, 26, 27, 28, 29, 30, 31] (by decide +kernel) (by decide +kernel)
set_option maxRecDepth 20000 in
theorem gX2_placeByClock_X2_aim : GoodIn wsX2_placeByClock (wsV RX2 62 RX2 yX2_aim wsX2_aim) := goodIn_app (goodIn_of _ (by decide +kernel)) ggX2_placeByClock_X2_aim
set_option maxRecDepth 20000 in
theorem ggX2_placeByClock_X2_holds : GoodIn wsX2_placeByClock wsX2_holds := goodIn_r _ [15] (by decide +kernel) (by decide +kernel)
set_option maxRecDepth 20000 in
theorem gX2_placeByClock_X2_holds : GoodIn wsX2_placeByClock (va_wsS RX2 66 yX2_holds wsX2_holds) := goodIn_app (goodIn_of _ (by decide +kernel)) ggX2_placeByClock_X2_holds
set_option maxRecDepth 20000 in
theorem ggX2_placeByClock_J6_bitCount_0f7a4 : GoodIn wsX2_placeByClock wsJ6_bitCount_0f7a4 := goodIn_r _ [19, 20, 21, 22] (by decide +kernel) (by decide +kernel)
set_option maxRecDepth 20000 in
theorem gX2_placeByClock_J6_bitCount_0f7a4 : GoodIn wsX2_placeByClock (va_wsS RX2 70 yJ6_bitCount_0f7a4 wsJ6_bitCount_0f7a4) := goodIn_app (goodIn_of _ (by decide +kernel)) ggX2_placeByClock_J6_bitCount_0f7a4
set_option maxRecDepth 20000 in
theorem ggX2_placeByClock_X2_memberWithNumber : GoodIn wsX2_placeByClock wsX2_memberWithNumber := goodIn_r _ [25, 13, 14, 5, 15] (by decide +kernel) (by decide +kernel)
set_option maxRecDepth 20000 in
theorem gX2_placeByClock_X2_memberWithNumber : GoodIn wsX2_placeByClock (va_wsS RX2 75 yX2_memberWithNumber wsX2_memberWithNumber) := goodIn_app (goodIn_of _ (by decide +kernel)) ggX2_placeByClock_X2_memberWithNumber
theorem dX2_placeByClock_0 : decode cX2_placeByClock 0 = .ok (.aload_n 0, 1) := by decide +kernel
theorem dX2_placeByClock_1 : decode cX2_placeByClock 1 = .ok (.getfield 11, 3) := by decide +kernel
theorem dX2_placeByClock_4 : decode cX2_placeByClock 4 = .ok (.iload_n 1, 1) := by decide +kernel
theorem dX2_placeByClock_5 : decode cX2_placeByClock 5 = .ok (.aaload, 1) := by decide +kernel
theorem dX2_placeByClock_6 : decode cX2_placeByClock 6 = .ok (.iconst 4, 1) := by decide +kernel
theorem dX2_placeByClock_7 : decode cX2_placeByClock 7 = .ok (.iaload, 1) := by decide +kernel
theorem dX2_placeByClock_8 : decode cX2_placeByClock 8 = .ok (.istore_n 3, 1) := by decide +kernel
theorem dX2_placeByClock_9 : decode cX2_placeByClock 9 = .ok (.iload_n 3, 1) := by decide +kernel
theorem dX2_placeByClock_10 : decode cX2_placeByClock 10 = .ok (.ifCond .ne 5, 3) := by decide +kernel
theorem dX2_placeByClock_13 : decode cX2_placeByClock 13 = .ok (.iconst (-1), 1) := by decide +kernel
theorem dX2_placeByClock_14 : decode cX2_placeByClock 14 = .ok (.ireturn, 1) := by decide +kernel
theorem dX2_placeByClock_15 : decode cX2_placeByClock 15 = .ok (.aload_n 0, 1) := by decide +kernel
theorem dX2_placeByClock_16 : decode cX2_placeByClock 16 = .ok (.iload_n 1, 1) := by decide +kernel
theorem dX2_placeByClock_17 : decode cX2_placeByClock 17 = .ok (.iload_n 2, 1) := by decide +kernel
theorem dX2_placeByClock_18 : decode cX2_placeByClock 18 = .ok (.invokevirtual 62, 3) := by decide +kernel
theorem dX2_placeByClock_21 : decode cX2_placeByClock 21 = .ok (.istore 4, 2) := by decide +kernel
theorem dX2_placeByClock_23 : decode cX2_placeByClock 23 = .ok (.iload_n 3, 1) := by decide +kernel
theorem dX2_placeByClock_24 : decode cX2_placeByClock 24 = .ok (.iload 4, 2) := by decide +kernel
theorem dX2_placeByClock_26 : decode cX2_placeByClock 26 = .ok (.invokestatic 66, 3) := by decide +kernel
theorem dX2_placeByClock_29 : decode cX2_placeByClock 29 = .ok (.ifCond .eq 8, 3) := by decide +kernel
theorem dX2_placeByClock_32 : decode cX2_placeByClock 32 = .ok (.iload 4, 2) := by decide +kernel
theorem dX2_placeByClock_34 : decode cX2_placeByClock 34 = .ok (.goto 14, 3) := by decide +kernel
theorem dX2_placeByClock_37 : decode cX2_placeByClock 37 = .ok (.iload_n 3, 1) := by decide +kernel
theorem dX2_placeByClock_38 : decode cX2_placeByClock 38 = .ok (.iload 4, 2) := by decide +kernel
theorem dX2_placeByClock_40 : decode cX2_placeByClock 40 = .ok (.iload_n 3, 1) := by decide +kernel
theorem dX2_placeByClock_41 : decode cX2_placeByClock 41 = .ok (.invokestatic 70, 3) := by decide +kernel
theorem dX2_placeByClock_44 : decode cX2_placeByClock 44 = .ok (.irem, 1) := by decide +kernel
theorem dX2_placeByClock_45 : decode cX2_placeByClock 45 = .ok (.invokestatic 75, 3) := by decide +kernel
theorem dX2_placeByClock_48 : decode cX2_placeByClock 48 = .ok (.ireturn, 1) := by decide +kernel
set_option maxRecDepth 20000 in
theorem ggX2_place_X2_clockOf : GoodIn wsX2_place wsX2_clockOf := goodIn_r _ [5, 6, 40, 41, 42, 43, 44, 45] (by decide +kernel) (by decide +kernel)
set_option maxRecDepth 20000 in
theorem gX2_place_X2_clockOf : GoodIn wsX2_place (wsV RX2 78 RX2 yX2_clockOf wsX2_clockOf) := goodIn_app (goodIn_of _ (by decide +kernel)) ggX2_place_X2_clockOf
set_option maxRecDepth 20000 in
theorem ggX2_place_X2_placeByClock : GoodIn wsX2_place wsX2_placeByClock := goodIn_r _ [10, 6, 11, 12, 13, 4, 14, 15, 16, 17, 18, 19, 20, 21, 22, 23, 24, 25, 26, 27, 28, 29, 30, 31, 32, 33, 40, 41, 42, 43, 44, 45] (by decide +kernel) (by decide +kernel)
set_option maxRecDepth 20000 in
theorem gX2_place_X2_placeByClock : GoodIn wsX2_place (wsV RX2 81 RX2 yX2_placeByClock wsX2_placeByClock) := goodIn_app (goodIn_of _ (by decide +kernel)) ggX2_place_X2_placeByClock
set_option maxRecDepth 20000 in
theorem ggX2_place_X2_isShut : GoodIn wsX2_place wsX2_isShut := goodIn_r _ [37, 38, 39, 40, 41, 42, 43, 44, 45] (by decide +kernel) (by decide +kernel)
set_option maxRecDepth 20000 in
theorem gX2_place_X2_isShut : GoodIn wsX2_place (wsV RX2 84 RX2 yX2_isShut wsX2_isShut) := goodIn_app (goodIn_of _ (by decide +kernel)) ggX2_place_X2_isShut
theorem dX2_place_0 : decode cX2_place 0 = .ok (.aload_n 0, 1) := by decide +kernel
theorem dX2_place_1 : decode cX2_place 1 = .ok (.iload_n 1, 1) := by decide +kernel
theorem dX2_place_2 : decode cX2_place 2 = .ok (.iload_n 2, 1) := by decide +kernel
theorem dX2_place_3 : decode cX2_place 3 = .ok (.invokevirtual 78, 3) := by decide +kernel
theorem dX2_place_6 : decode cX2_place 6 = .ok (.istore_n 3, 1) := by decide +kernel
theorem dX2_place_7 : decode cX2_place 7 = .ok (.iload_n 3, 1) := by decide +kernel
theorem dX2_place_8 : decode cX2_place 8 = .ok (.ifCond .ge 5, 3) := by decide +kernel
theorem dX2_place_11 : decode cX2_place 11 = .ok (.iconst (-1), 1) := by decide +kernel
theorem dX2_place_12 : decode cX2_place 12 = .ok (.ireturn, 1) := by decide +kernel
theorem dX2_place_13 : decode cX2_place 13 = .ok (.aload_n 0, 1) := by decide +kernel
theorem dX2_place_14 : decode cX2_place 14 = .ok (.iload_n 1, 1) := by decide +kernel
theorem dX2_place_15 : decode cX2_place 15 = .ok (.iload_n 3, 1) := by decide +kernel
theorem dX2_place_16 : decode cX2_place 16 = .ok (.invokevirtual 81, 3) := by decide +kernel
theorem dX2_place_19 : decode cX2_place 19 = .ok (.istore 4, 2) := by decide +kernel
theorem dX2_place_21 : decode cX2_place 21 = .ok (.aload_n 0, 1) := by decide +kernel
theorem dX2_place_22 : decode cX2_place 22 = .ok (.iload_n 1, 1) := by decide +kernel
theorem dX2_place_23 : decode cX2_place 23 = .ok (.iload 4, 2) := by decide +kernel
theorem dX2_place_25 : decode cX2_place 25 = .ok (.iload_n 2, 1) := by decide +kernel
theorem dX2_place_26 : decode cX2_place 26 = .ok (.invokevirtual 84, 3) := by decide +kernel
theorem dX2_place_29 : decode cX2_place 29 = .ok (.ifCond .eq 7, 3) := by decide +kernel
theorem dX2_place_32 : decode cX2_place 32 = .ok (.iconst (-1), 1) := by decide +kernel
theorem dX2_place_33 : decode cX2_place 33 = .ok (.goto 5, 3) := by decide +kernel
theorem dX2_place_36 : decode cX2_place 36 = .ok (.iload 4, 2) := by decide +kernel
theorem dX2_place_38 : decode cX2_place 38 = .ok (.ireturn, 1) := by decide +kernel
set_option maxRecDepth 20000 in
theorem ggX2_whyNowhere_X2_clockOf : GoodIn wsX2_whyNowhere wsX2_clockOf := goodIn_r _ [5, 6, 40, 41, 42, 43, 44, 45] (by decide +kernel) (by decide +kernel)
set_option maxRecDepth 20000 in
theorem gX2_whyNowhere_X2_clockOf : GoodIn wsX2_whyNowhere (wsV RX2 78 RX2 yX2_clockOf wsX2_clockOf) := goodIn_app (goodIn_of _ (by decide +kernel)) ggX2_whyNowhere_X2_clockOf
set_option maxRecDepth 20000 in
theorem ggX2_whyNowhere_X2_placeByClock : GoodIn wsX2_whyNowhere wsX2_placeByClock := goodIn_r _ [10, 6, 11, 12, 13, 4, 14, 15, 16, 17, 18, 19, 20, 21, 22, 23, 24, 25, 26, 27, 28, 29, 30, 31, 32, 33, 40, 41, 42, 43, 44, 45] (by decide +kernel) (by decide +kernel)
set_option maxRecDepth 20000 in
theorem gX2_whyNowhere_X2_placeByClock : GoodIn wsX2_whyNowhere (wsV RX2 81 RX2 yX2_placeByClock wsX2_placeByClock) := goodIn_app (goodIn_of _ (by decide +kernel)) ggX2_whyNowhere_X2_placeByClock
set_option maxRecDepth 20000 in
theorem ggX2_whyNowhere_X2_isShut : GoodIn wsX2_whyNowhere wsX2_isShut := goodIn_r _ [37, 38, 39, 40, 41, 42, 43, 44, 45] (by decide +kernel) (by decide +kernel)
set_option maxRecDepth 20000 in
theorem gX2_whyNowhere_X2_isShut : GoodIn wsX2_whyNowhere (wsV RX2 84 RX2 yX2_isShut wsX2_isShut) := goodIn_app (goodIn_of _ (by decide +kernel)) ggX2_whyNowhere_X2_isShut
theorem dX2_whyNowhere_0 : decode cX2_whyNowhere 0 = .ok (.aload_n 0, 1) := by decide +kernel
theorem dX2_whyNowhere_1 : decode cX2_whyNowhere 1 = .ok (.iload_n 1, 1) := by decide +kernel
theorem dX2_whyNowhere_2 : decode cX2_whyNowhere 2 = .ok (.iload_n 2, 1) := by decide +kernel
theorem dX2_whyNowhere_3 : decode cX2_whyNowhere 3 = .ok (.invokevirtual 78, 3) := by decide +kernel
theorem dX2_whyNowhere_6 : decode cX2_whyNowhere 6 = .ok (.istore_n 3, 1) := by decide +kernel
theorem dX2_whyNowhere_7 : decode cX2_whyNowhere 7 = .ok (.iload_n 3, 1) := by decide +kernel
theorem dX2_whyNowhere_8 : decode cX2_whyNowhere 8 = .ok (.ifCond .ge 5, 3) := by decide +kernel
theorem dX2_whyNowhere_11 : decode cX2_whyNowhere 11 = .ok (.iconst 1, 1) := by decide +kernel
theorem dX2_whyNowhere_12 : decode cX2_whyNowhere 12 = .ok (.ireturn, 1) := by decide +kernel
theorem dX2_whyNowhere_13 : decode cX2_whyNowhere 13 = .ok (.aload_n 0, 1) := by decide +kernel
theorem dX2_whyNowhere_14 : decode cX2_whyNowhere 14 = .ok (.iload_n 1, 1) := by decide +kernel
theorem dX2_whyNowhere_15 : decode cX2_whyNowhere 15 = .ok (.iload_n 3, 1) := by decide +kernel
theorem dX2_whyNowhere_16 : decode cX2_whyNowhere 16 = .ok (.invokevirtual 81, 3) := by decide +kernel
theorem dX2_whyNowhere_19 : decode cX2_whyNowhere 19 = .ok (.istore 4, 2) := by decide +kernel
theorem dX2_whyNowhere_21 : decode cX2_whyNowhere 21 = .ok (.iload 4, 2) := by decide +kernel
theorem dX2_whyNowhere_23 : decode cX2_whyNowhere 23 = .ok (.iconst (-1), 1) := by decide +kernel
theorem dX2_whyNowhere_24 : decode cX2_whyNowhere 24 = .ok (.if_icmp .ne 5, 3) := by decide +kernel
theorem dX2_whyNowhere_27 : decode cX2_whyNowhere 27 = .ok (.iconst 2, 1) := by decide +kernel
theorem dX2_whyNowhere_28 : decode cX2_whyNowhere 28 = .ok (.ireturn, 1) := by decide +kernel
theorem dX2_whyNowhere_29 : decode cX2_whyNowhere 29 = .ok (.aload_n 0, 1) := by decide +kernel
theorem dX2_whyNowhere_30 : decode cX2_whyNowhere 30 = .ok (.iload_n 1, 1) := by decide +kernel
theorem dX2_whyNowhere_31 : decode cX2_whyNowhere 31 = .ok (.iload 4, 2) := by decide +kernel
theorem dX2_whyNowhere_33 : decode cX2_whyNowhere 33 = .ok (.iload_n 2, 1) := by decide +kernel
theorem dX2_whyNowhere_34 : decode cX2_whyNowhere 34 = .ok (.invokevirtual 84, 3) := by decide +kernel
theorem dX2_whyNowhere_37 : decode cX2_whyNowhere 37 = .ok (.ifCond .eq 7, 3) := by decide +kernel
theorem dX2_whyNowhere_40 : decode cX2_whyNowhere 40 = .ok (.iconst 3, 1) := by decide +kernel
theorem dX2_whyNowhere_41 : decode cX2_whyNowhere 41 = .ok (.goto 4, 3) := by decide +kernel
theorem dX2_whyNowhere_44 : decode cX2_whyNowhere 44 = .ok (.iconst 0, 1) := by decide +kernel
theorem dX2_whyNowhere_45 : decode cX2_whyNowhere 45 = .ok (.ireturn, 1) := by decide +kernel
set_option maxRecDepth 20000 in
theorem ggX2_meet_X2_place : GoodIn wsX2_meet wsX2_place := goodIn_r _ [5, 6, 7, 8, 4, 9, 10, 11, 12, 13, 14, 15, 16, 17, 18, 19, 20, 21, 22, 23, 24, 25, 26, 27, 28, 29, 30, 31, 32, 33, 34, 35, 36, 37, 38, 39, 40, 41, 42, 43, 44, 45, 46, 47, 48, 49] (by decide +kernel) (by decide +kernel)
set_option maxRecDepth 20000 in
theorem gX2_meet_X2_place : GoodIn wsX2_meet (wsV RX2 88 RX2 yX2_place wsX2_place) := goodIn_app (goodIn_of _ (by decide +kernel)) ggX2_meet_X2_place
theorem dX2_meet_0 : decode cX2_meet 0 = .ok (.aload_n 0, 1) := by decide +kernel
theorem dX2_meet_1 : decode cX2_meet 1 = .ok (.iload_n 1, 1) := by decide +kernel
theorem dX2_meet_2 : decode cX2_meet 2 = .ok (.iload_n 3, 1) := by decide +kernel
theorem dX2_meet_3 : decode cX2_meet 3 = .ok (.invokevirtual 88, 3) := by decide +kernel
theorem dX2_meet_6 : decode cX2_meet 6 = .ok (.istore 4, 2) := by decide +kernel
theorem dX2_meet_8 : decode cX2_meet 8 = .ok (.iload 4, 2) := by decide +kernel
theorem dX2_meet_10 : decode cX2_meet 10 = .ok (.iconst (-1), 1) := by decide +kernel
theorem dX2_meet_11 : decode cX2_meet 11 = .ok (.if_icmp .eq 18, 3) := by decide +kernel
theorem dX2_meet_14 : decode cX2_meet 14 = .ok (.iload 4, 2) := by decide +kernel
theorem dX2_meet_16 : decode cX2_meet 16 = .ok (.aload_n 0, 1) := by decide +kernel
theorem dX2_meet_17 : decode cX2_meet 17 = .ok (.iload_n 2, 1) := by decide +kernel
theorem dX2_meet_18 : decode cX2_meet 18 = .ok (.iload_n 3, 1) := by decide +kernel
theorem dX2_meet_19 : decode cX2_meet 19 = .ok (.invokevirtual 88, 3) := by decide +kernel
theorem dX2_meet_22 : decode cX2_meet 22 = .ok (.if_icmp .ne 7, 3) := by decide +kernel
theorem dX2_meet_25 : decode cX2_meet 25 = .ok (.iconst 1, 1) := by decide +kernel
theorem dX2_meet_26 : decode cX2_meet 26 = .ok (.goto 4, 3) := by decide +kernel
theorem dX2_meet_29 : decode cX2_meet 29 = .ok (.iconst 0, 1) := by decide +kernel
theorem dX2_meet_30 : decode cX2_meet 30 = .ok (.ireturn, 1) := by decide +kernel
theorem dX2_isShut_0 : decode cX2_isShut 0 = .ok (.iconst 0, 1) := by decide +kernel
theorem dX2_isShut_1 : decode cX2_isShut 1 = .ok (.istore 4, 2) := by decide +kernel
theorem dX2_isShut_3 : decode cX2_isShut 3 = .ok (.iload 4, 2) := by decide +kernel
theorem dX2_isShut_5 : decode cX2_isShut 5 = .ok (.aload_n 0, 1) := by decide +kernel
theorem dX2_isShut_6 : decode cX2_isShut 6 = .ok (.getfield 37, 3) := by decide +kernel
theorem dX2_isShut_9 : decode cX2_isShut 9 = .ok (.if_icmp .ge 78, 3) := by decide +kernel
theorem dX2_isShut_12 : decode cX2_isShut 12 = .ok (.aload_n 0, 1) := by decide +kernel
theorem dX2_isShut_13 : decode cX2_isShut 13 = .ok (.getfield 16, 3) := by decide +kernel
theorem dX2_isShut_16 : decode cX2_isShut 16 = .ok (.iload 4, 2) := by decide +kernel
theorem dX2_isShut_18 : decode cX2_isShut 18 = .ok (.aaload, 1) := by decide +kernel
theorem dX2_isShut_19 : decode cX2_isShut 19 = .ok (.astore 5, 2) := by decide +kernel
theorem dX2_isShut_21 : decode cX2_isShut 21 = .ok (.aload 5, 2) := by decide +kernel
theorem dX2_isShut_23 : decode cX2_isShut 23 = .ok (.iconst 1, 1) := by decide +kernel
theorem dX2_isShut_24 : decode cX2_isShut 24 = .ok (.iaload, 1) := by decide +kernel
theorem dX2_isShut_25 : decode cX2_isShut 25 = .ok (.iload_n 2, 1) := by decide +kernel
theorem dX2_isShut_26 : decode cX2_isShut 26 = .ok (.if_icmp .ne 23, 3) := by decide +kernel
theorem dX2_isShut_29 : decode cX2_isShut 29 = .ok (.aload 5, 2) := by decide +kernel
theorem dX2_isShut_31 : decode cX2_isShut 31 = .ok (.iconst 0, 1) := by decide +kernel
theorem dX2_isShut_32 : decode cX2_isShut 32 = .ok (.iaload, 1) := by decide +kernel
theorem dX2_isShut_33 : decode cX2_isShut 33 = .ok (.iconst (-1), 1) := by decide +kernel
theorem dX2_isShut_34 : decode cX2_isShut 34 = .ok (.if_icmp .eq 11, 3) := by decide +kernel
theorem dX2_isShut_37 : decode cX2_isShut 37 = .ok (.aload 5, 2) := by decide +kernel
theorem dX2_isShut_39 : decode cX2_isShut 39 = .ok (.iconst 0, 1) := by decide +kernel
theorem dX2_isShut_40 : decode cX2_isShut 40 = .ok (.iaload, 1) := by decide +kernel
theorem dX2_isShut_41 : decode cX2_isShut 41 = .ok (.iload_n 1, 1) := by decide +kernel
theorem dX2_isShut_42 : decode cX2_isShut 42 = .ok (.if_icmp .ne 7, 3) := by decide +kernel
theorem dX2_isShut_45 : decode cX2_isShut 45 = .ok (.iconst 1, 1) := by decide +kernel
theorem dX2_isShut_46 : decode cX2_isShut 46 = .ok (.goto 4, 3) := by decide +kernel
theorem dX2_isShut_49 : decode cX2_isShut 49 = .ok (.iconst 0, 1) := by decide +kernel
theorem dX2_isShut_50 : decode cX2_isShut 50 = .ok (.istore 6, 2) := by decide +kernel
theorem dX2_isShut_52 : decode cX2_isShut 52 = .ok (.iload_n 3, 1) := by decide +kernel
theorem dX2_isShut_53 : decode cX2_isShut 53 = .ok (.aload 5, 2) := by decide +kernel
theorem dX2_isShut_55 : decode cX2_isShut 55 = .ok (.iconst 2, 1) := by decide +kernel
theorem dX2_isShut_56 : decode cX2_isShut 56 = .ok (.iaload, 1) := by decide +kernel
theorem dX2_isShut_57 : decode cX2_isShut 57 = .ok (.isub, 1) := by decide +kernel
theorem dX2_isShut_58 : decode cX2_isShut 58 = .ok (.istore 7, 2) := by decide +kernel
theorem dX2_isShut_60 : decode cX2_isShut 60 = .ok (.iload 6, 2) := by decide +kernel
theorem dX2_isShut_62 : decode cX2_isShut 62 = .ok (.ifCond .eq 19, 3) := by decide +kernel
theorem dX2_isShut_65 : decode cX2_isShut 65 = .ok (.iload 7, 2) := by decide +kernel
theorem dX2_isShut_67 : decode cX2_isShut 67 = .ok (.ifCond .lt 14, 3) := by decide +kernel
theorem dX2_isShut_70 : decode cX2_isShut 70 = .ok (.iload 7, 2) := by decide +kernel
theorem dX2_isShut_72 : decode cX2_isShut 72 = .ok (.aload 5, 2) := by decide +kernel
theorem dX2_isShut_74 : decode cX2_isShut 74 = .ok (.iconst 3, 1) := by decide +kernel
theorem dX2_isShut_75 : decode cX2_isShut 75 = .ok (.iaload, 1) := by decide +kernel
theorem dX2_isShut_76 : decode cX2_isShut 76 = .ok (.if_icmp .ge 5, 3) := by decide +kernel
theorem dX2_isShut_79 : decode cX2_isShut 79 = .ok (.iconst 1, 1) := by decide +kernel
theorem dX2_isShut_80 : decode cX2_isShut 80 = .ok (.ireturn, 1) := by decide +kernel
theorem dX2_isShut_81 : decode cX2_isShut 81 = .ok (.iinc 4 1, 3) := by decide +kernel
theorem dX2_isShut_84 : decode cX2_isShut 84 = .ok (.goto (-81), 3) := by decide +kernel
theorem dX2_isShut_87 : decode cX2_isShut 87 = .ok (.iconst 0, 1) := by decide +kernel
theorem dX2_isShut_88 : decode cX2_isShut 88 = .ok (.ireturn, 1) := by decide +kernel
theorem dX2_holds_0 : decode cX2_holds 0 = .ok (.iload_n 0, 1) := by decide +kernel
theorem dX2_holds_1 : decode cX2_holds 1 = .ok (.iload_n 1, 1) := by decide +kernel
theorem dX2_holds_2 : decode cX2_holds 2 = .ok (.ishr, 1) := by decide +kernel
theorem dX2_holds_3 : decode cX2_holds 3 = .ok (.iconst 1, 1) := by decide +kernel
theorem dX2_holds_4 : decode cX2_holds 4 = .ok (.iand, 1) := by decide +kernel
theorem dX2_holds_5 : decode cX2_holds 5 = .ok (.iconst 1, 1) := by decide +kernel
theorem dX2_holds_6 : decode cX2_holds 6 = .ok (.if_icmp .ne 7, 3) := by decide +kernel
theorem dX2_holds_9 : decode cX2_holds 9 = .ok (.iconst 1, 1) := by decide +kernel
theorem dX2_holds_10 : decode cX2_holds 10 = .ok (.goto 4, 3) := by decide +kernel
theorem dX2_holds_13 : decode cX2_holds 13 = .ok (.iconst 0, 1) := by decide +kernel
theorem dX2_holds_14 : decode cX2_holds 14 = .ok (.ireturn, 1) := by decide +kernel
set_option maxRecDepth 20000 in
theorem ggX2_memberWithNumber_X2_holds : GoodIn wsX2_memberWithNumber wsX2_holds := goodIn_r _ [4] (by decide +kernel) (by decide +kernel)
set_option maxRecDepth 20000 in
theorem gX2_memberWithNumber_X2_holds : GoodIn wsX2_memberWithNumber (va_wsS RX2 66 yX2_holds wsX2_holds) := goodIn_app (goodIn_of _ (by decide +kernel)) ggX2_memberWithNumber_X2_holds
theorem dX2_memberWithNumber_0 : decode cX2_memberWithNumber 0 = .ok (.iload_n 1, 1) := by decide +kernel
theorem dX2_memberWithNumber_1 : decode cX2_memberWithNumber 1 = .ok (.istore_n 2, 1) := by decide +kernel
theorem dX2_memberWithNumber_2 : decode cX2_memberWithNumber 2 = .ok (.iconst 0, 1) := by decide +kernel
theorem dX2_memberWithNumber_3 : decode cX2_memberWithNumber 3 = .ok (.istore_n 3, 1) := by decide +kernel
theorem dX2_memberWithNumber_4 : decode cX2_memberWithNumber 4 = .ok (.iload_n 3, 1) := by decide +kernel
theorem dX2_memberWithNumber_5 : decode cX2_memberWithNumber 5 = .ok (.bipush 10, 2) := by decide +kernel
theorem dX2_memberWithNumber_7 : decode cX2_memberWithNumber 7 = .ok (.if_icmp .ge 26, 3) := by decide +kernel
theorem dX2_memberWithNumber_10 : decode cX2_memberWithNumber 10 = .ok (.iload_n 0, 1) := by decide +kernel
theorem dX2_memberWithNumber_11 : decode cX2_memberWithNumber 11 = .ok (.iload_n 3, 1) := by decide +kernel
theorem dX2_memberWithNumber_12 : decode cX2_memberWithNumber 12 = .ok (.invokestatic 66, 3) := by decide +kernel
theorem dX2_memberWithNumber_15 : decode cX2_memberWithNumber 15 = .ok (.ifCond .eq 12, 3) := by decide +kernel
theorem dX2_memberWithNumber_18 : decode cX2_memberWithNumber 18 = .ok (.iload_n 2, 1) := by decide +kernel
theorem dX2_memberWithNumber_19 : decode cX2_memberWithNumber 19 = .ok (.ifCond .ne 5, 3) := by decide +kernel
theorem dX2_memberWithNumber_22 : decode cX2_memberWithNumber 22 = .ok (.iload_n 3, 1) := by decide +kernel
theorem dX2_memberWithNumber_23 : decode cX2_memberWithNumber 23 = .ok (.ireturn, 1) := by decide +kernel
theorem dX2_memberWithNumber_24 : decode cX2_memberWithNumber 24 = .ok (.iinc 2 (-1), 3) := by decide +kernel
theorem dX2_memberWithNumber_27 : decode cX2_memberWithNumber 27 = .ok (.iinc 3 1, 3) := by decide +kernel
theorem dX2_memberWithNumber_30 : decode cX2_memberWithNumber 30 = .ok (.goto (-26), 3) := by decide +kernel
theorem dX2_memberWithNumber_33 : decode cX2_memberWithNumber 33 = .ok (.iconst (-1), 1) := by decide +kernel
theorem dX2_memberWithNumber_34 : decode cX2_memberWithNumber 34 = .ok (.ireturn, 1) := by decide +kernel
set_option maxRecDepth 20000 in
theorem ggX2_primeAbove_X2_isPrime : GoodIn wsX2_primeAbove wsX2_isPrime := goodIn_r _ [4] (by decide +kernel) (by decide +kernel)
set_option maxRecDepth 20000 in
theorem gX2_primeAbove_X2_isPrime : GoodIn wsX2_primeAbove (va_wsS RX2 91 yX2_isPrime wsX2_isPrime) := goodIn_app (goodIn_of _ (by decide +kernel)) ggX2_primeAbove_X2_isPrime
theorem dX2_primeAbove_0 : decode cX2_primeAbove 0 = .ok (.iload_n 0, 1) := by decide +kernel
theorem dX2_primeAbove_1 : decode cX2_primeAbove 1 = .ok (.iconst 1, 1) := by decide +kernel
theorem dX2_primeAbove_2 : decode cX2_primeAbove 2 = .ok (.iadd, 1) := by decide +kernel
theorem dX2_primeAbove_3 : decode cX2_primeAbove 3 = .ok (.istore_n 1, 1) := by decide +kernel
theorem dX2_primeAbove_4 : decode cX2_primeAbove 4 = .ok (.iload_n 1, 1) := by decide +kernel
theorem dX2_primeAbove_5 : decode cX2_primeAbove 5 = .ok (.iconst 2, 1) := by decide +kernel
theorem dX2_primeAbove_6 : decode cX2_primeAbove 6 = .ok (.iload_n 0, 1) := by decide +kernel
theorem dX2_primeAbove_7 : decode cX2_primeAbove 7 = .ok (.imul, 1) := by decide +kernel
theorem dX2_primeAbove_8 : decode cX2_primeAbove 8 = .ok (.if_icmp .ge 16, 3) := by decide +kernel
theorem dX2_primeAbove_11 : decode cX2_primeAbove 11 = .ok (.iload_n 1, 1) := by decide +kernel
theorem dX2_primeAbove_12 : decode cX2_primeAbove 12 = .ok (.invokestatic 91, 3) := by decide +kernel
theorem dX2_primeAbove_15 : decode cX2_primeAbove 15 = .ok (.ifCond .ne 9, 3) := by decide +kernel
theorem dX2_primeAbove_18 : decode cX2_primeAbove 18 = .ok (.iinc 1 1, 3) := by decide +kernel
theorem dX2_primeAbove_21 : decode cX2_primeAbove 21 = .ok (.goto (-17), 3) := by decide +kernel
theorem dX2_primeAbove_24 : decode cX2_primeAbove 24 = .ok (.iload_n 1, 1) := by decide +kernel
theorem dX2_primeAbove_25 : decode cX2_primeAbove 25 = .ok (.ireturn, 1) := by decide +kernel
theorem dX2_isPrime_0 : decode cX2_isPrime 0 = .ok (.iconst 2, 1) := by decide +kernel
theorem dX2_isPrime_1 : decode cX2_isPrime 1 = .ok (.istore_n 1, 1) := by decide +kernel
theorem dX2_isPrime_2 : decode cX2_isPrime 2 = .ok (.iload_n 1, 1) := by decide +kernel
theorem dX2_isPrime_3 : decode cX2_isPrime 3 = .ok (.iload_n 0, 1) := by decide +kernel
theorem dX2_isPrime_4 : decode cX2_isPrime 4 = .ok (.if_icmp .ge 17, 3) := by decide +kernel
theorem dX2_isPrime_7 : decode cX2_isPrime 7 = .ok (.iload_n 0, 1) := by decide +kernel
theorem dX2_isPrime_8 : decode cX2_isPrime 8 = .ok (.iload_n 1, 1) := by decide +kernel
theorem dX2_isPrime_9 : decode cX2_isPrime 9 = .ok (.irem, 1) := by decide +kernel
theorem dX2_isPrime_10 : decode cX2_isPrime 10 = .ok (.ifCond .ne 5, 3) := by decide +kernel
theorem dX2_isPrime_13 : decode cX2_isPrime 13 = .ok (.iconst 0, 1) := by decide +kernel
theorem dX2_isPrime_14 : decode cX2_isPrime 14 = .ok (.ireturn, 1) := by decide +kernel
theorem dX2_isPrime_15 : decode cX2_isPrime 15 = .ok (.iinc 1 1, 3) := by decide +kernel
theorem dX2_isPrime_18 : decode cX2_isPrime 18 = .ok (.goto (-16), 3) := by decide +kernel
theorem dX2_isPrime_21 : decode cX2_isPrime 21 = .ok (.iconst 1, 1) := by decide +kernel
theorem dX2_isPrime_22 : decode cX2_isPrime 22 = .ok (.ireturn, 1) := by decide +kernel
theorem dX2_nextLot_0 : decode cX2_nextLot 0 = .ok (.lload_n 0, 1) := by decide +kernel
theorem dX2_nextLot_1 : decode cX2_nextLot 1 = .ok (.ldc2_w 95, 3) := by decide +kernel
theorem dX2_nextLot_4 : decode cX2_nextLot 4 = .ok (.lmul, 1) := by decide +kernel
theorem dX2_nextLot_5 : decode cX2_nextLot 5 = .ok (.ldc2_w 97, 3) := by decide +kernel
theorem dX2_nextLot_8 : decode cX2_nextLot 8 = .ok (.lrem, 1) := by decide +kernel
theorem dX2_nextLot_9 : decode cX2_nextLot 9 = .ok (.lreturn, 1) := by decide +kernel
set_option maxRecDepth 20000 in
theorem ggX3_init_X2_init : GoodIn wsX3_init wsX2_init := goodIn_r _ [25, 26, 2, 3, 27, 19, 28, 29, 30, 31, 32, 6, 33, 34, 35, 36, 37, 38, 39, 40, 41, 42, 43, 57, 58, 59, 60, 61, 62] (by decide +kernel) (by decide +kernel)
set_option maxRecDepth 20000 in
theorem gX3_init_X2_init : GoodIn wsX3_init (wsX2_init) := ggX3_init_X2_init
set_option maxRecDepth 20000 in
theorem ggX3_init_X1_init : GoodIn wsX3_init wsX1_init := goodIn_r _ [46, 47, 2, 3, 48, 49, 5, 6, 50, 24, 25, 26, 27, 19, 28, 29, 30, 31, 32, 33, 34, 35, 36, 37, 38, 39, 40, 41, 42, 43, 71, 72, 73, 57, 58, 59, 60, 61, 62] (by decide +kernel) (by decide +kernel)
set_option maxRecDepth 20000 in
theorem gX3_init_X1_init : GoodIn wsX3_init (wsX1_init) := ggX3_init_X1_init
set_option maxRecDepth 20000 in
theorem ggX3_init_X0_init : GoodIn wsX3_init wsX0_init := goodIn_r _ [53, 54, 2, 3, 19, 55, 56, 74, 75, 76, 77] (by decide +kernel) (by decide +kernel)
set_option maxRecDepth 20000 in
theorem gX3_init_X0_init : GoodIn wsX3_init (wsX0_init) := ggX3_init_X0_init
theorem dX3_init_0 : decode cX3_init 0 = .ok (.aload_n 0, 1) := by decide +kernel
theorem dX3_init_1 : decode cX3_init 1 = .ok (.invokespecial 1, 3) := by decide +kernel
theorem dX3_init_4 : decode cX3_init 4 = .ok (.aload_n 0, 1) := by decide +kernel
theorem dX3_init_5 : decode cX3_init 5 = .ok (.new 7, 3) := by decide +kernel
theorem dX3_init_8 : decode cX3_init 8 = .ok (.dup, 1) := by decide +kernel
theorem dX3_init_9 : decode cX3_init 9 = .ok (.invokespecial 9, 3) := by decide +kernel
theorem dX3_init_12 : decode cX3_init 12 = .ok (.putfield 10, 3) := by decide +kernel
theorem dX3_init_15 : decode cX3_init 15 = .ok (.aload_n 0, 1) := by decide +kernel
theorem dX3_init_16 : decode cX3_init 16 = .ok (.new 16, 3) := by decide +kernel
theorem dX3_init_19 : decode cX3_init 19 = .ok (.dup, 1) := by decide +kernel
theorem dX3_init_20 : decode cX3_init 20 = .ok (.invokespecial 18, 3) := by decide +kernel
theorem dX3_init_23 : decode cX3_init 23 = .ok (.putfield 19, 3) := by decide +kernel
theorem dX3_init_26 : decode cX3_init 26 = .ok (.aload_n 0, 1) := by decide +kernel
theorem dX3_init_27 : decode cX3_init 27 = .ok (.iconst 2, 1) := by decide +kernel
theorem dX3_init_28 : decode cX3_init 28 = .ok (.anewarray 7, 3) := by decide +kernel
theorem dX3_init_31 : decode cX3_init 31 = .ok (.putfield 23, 3) := by decide +kernel
theorem dX3_init_34 : decode cX3_init 34 = .ok (.iconst 0, 1) := by decide +kernel
theorem dX3_init_35 : decode cX3_init 35 = .ok (.istore_n 1, 1) := by decide +kernel
theorem dX3_init_36 : decode cX3_init 36 = .ok (.iload_n 1, 1) := by decide +kernel
theorem dX3_init_37 : decode cX3_init 37 = .ok (.iconst 2, 1) := by decide +kernel
theorem dX3_init_38 : decode cX3_init 38 = .ok (.if_icmp .ge 22, 3) := by decide +kernel
theorem dX3_init_41 : decode cX3_init 41 = .ok (.aload_n 0, 1) := by decide +kernel
theorem dX3_init_42 : decode cX3_init 42 = .ok (.getfield 23, 3) := by decide +kernel
theorem dX3_init_45 : decode cX3_init 45 = .ok (.iload_n 1, 1) := by decide +kernel
theorem dX3_init_46 : decode cX3_init 46 = .ok (.new 7, 3) := by decide +kernel
theorem dX3_init_49 : decode cX3_init 49 = .ok (.dup, 1) := by decide +kernel
theorem dX3_init_50 : decode cX3_init 50 = .ok (.invokespecial 9, 3) := by decide +kernel
theorem dX3_init_53 : decode cX3_init 53 = .ok (.aastore, 1) := by decide +kernel
theorem dX3_init_54 : decode cX3_init 54 = .ok (.iinc 1 1, 3) := by decide +kernel
theorem dX3_init_57 : decode cX3_init 57 = .ok (.goto (-21), 3) := by decide +kernel
theorem dX3_init_60 : decode cX3_init 60 = .ok (.aload_n 0, 1) := by decide +kernel
theorem dX3_init_61 : decode cX3_init 61 = .ok (.iconst 2, 1) := by decide +kernel
theorem dX3_init_62 : decode cX3_init 62 = .ok (.newarray .boolean, 2) := by decide +kernel
theorem dX3_init_64 : decode cX3_init 64 = .ok (.putfield 27, 3) := by decide +kernel
theorem dX3_init_67 : decode cX3_init 67 = .ok (.aload_n 0, 1) := by decide +kernel
theorem dX3_init_68 : decode cX3_init 68 = .ok (.new 31, 3) := by decide +kernel
theorem dX3_init_71 : decode cX3_init 71 = .ok (.dup, 1) := by decide +kernel
theorem dX3_init_72 : decode cX3_init 72 = .ok (.invokespecial 33, 3) := by decide +kernel
theorem dX3_init_75 : decode cX3_init 75 = .ok (.putfield 34, 3) := by decide +kernel
theorem dX3_init_78 : decode cX3_init 78 = .ok (.aload_n 0, 1) := by decide +kernel
theorem dX3_init_79 : decode cX3_init 79 = .ok (.sipush 1700, 3) := by decide +kernel
theorem dX3_init_82 : decode cX3_init 82 = .ok (.newarray .int, 2) := by decide +kernel
theorem dX3_init_84 : decode cX3_init 84 = .ok (.putfield 38, 3) := by decide +kernel
theorem dX3_init_87 : decode cX3_init 87 = .ok (.aload_n 0, 1) := by decide +kernel
theorem dX3_init_88 : decode cX3_init 88 = .ok (.sipush 1500, 3) := by decide +kernel
theorem dX3_init_91 : decode cX3_init 91 = .ok (.newarray .int, 2) := by decide +kernel
theorem dX3_init_93 : decode cX3_init 93 = .ok (.putfield 42, 3) := by decide +kernel
theorem dX3_init_96 : decode cX3_init 96 = .ok (.aload_n 0, 1) := by decide +kernel
theorem dX3_init_97 : decode cX3_init 97 = .ok (.bipush 10, 2) := by decide +kernel
theorem dX3_init_99 : decode cX3_init 99 = .ok (.newarray .int, 2) := by decide +kernel
theorem dX3_init_101 : decode cX3_init 101 = .ok (.putfield 45, 3) := by decide +kernel
theorem dX3_init_104 : decode cX3_init 104 = .ok (.return_, 1) := by decide +kernel
set_option maxRecDepth 20000 in
theorem ggX3_channels_X2_clear : GoodIn wsX3_channels wsX2_clear := goodIn_r _ [10, 11, 12, 13, 14, 15, 16, 9, 17, 18, 19, 20, 44, 45, 46, 47, 48, 49] (by decide +kernel) (by decide +kernel)
set_option maxRecDepth 20000 in
theorem gX3_channels_X2_clear : GoodIn wsX3_channels (wsV RX3 49 RX2 yX2_clear wsX2_clear) := goodIn_app (goodIn_of _ (by decide +kernel)) ggX3_channels_X2_clear
set_option maxRecDepth 20000 in
theorem ggX3_channels_X1_forget : GoodIn wsX3_channels wsX1_forget := goodIn_r _ [25, 26, 27, 50, 51, 52] (by decide +kernel) (by decide +kernel)
set_option maxRecDepth 20000 in
theorem gX3_channels_X1_forget : GoodIn wsX3_channels (wsV RX3 53 RX1 yX1_forget wsX1_forget) := goodIn_app (goodIn_of _ (by decide +kernel)) ggX3_channels_X1_forget
set_option maxRecDepth 20000 in
theorem ggX3_channels_X0_begin : GoodIn wsX3_channels wsX0_begin := goodIn_r _ [32, 33, 34, 35, 53, 54, 55, 56] (by decide +kernel) (by decide +kernel)
set_option maxRecDepth 20000 in
theorem gX3_channels_X0_begin : GoodIn wsX3_channels (wsV RX3 56 RX0 yX0_begin wsX0_begin) := goodIn_app (goodIn_of _ (by decide +kernel)) ggX3_channels_X0_begin
theorem dX3_channels_0 : decode cX3_channels 0 = .ok (.iload_n 1, 1) := by decide +kernel
theorem dX3_channels_1 : decode cX3_channels 1 = .ok (.iconst 2, 1) := by decide +kernel
theorem dX3_channels_2 : decode cX3_channels 2 = .ok (.if_icmp .lt 9, 3) := by decide +kernel
theorem dX3_channels_5 : decode cX3_channels 5 = .ok (.iload_n 1, 1) := by decide +kernel
theorem dX3_channels_6 : decode cX3_channels 6 = .ok (.bipush 10, 2) := by decide +kernel
theorem dX3_channels_8 : decode cX3_channels 8 = .ok (.if_icmp .le 6, 3) := by decide +kernel
theorem dX3_channels_11 : decode cX3_channels 11 = .ok (.ldc 48, 2) := by decide +kernel
theorem dX3_channels_13 : decode cX3_channels 13 = .ok (.ireturn, 1) := by decide +kernel
theorem dX3_channels_14 : decode cX3_channels 14 = .ok (.aload_n 0, 1) := by decide +kernel
theorem dX3_channels_15 : decode cX3_channels 15 = .ok (.getfield 10, 3) := by decide +kernel
theorem dX3_channels_18 : decode cX3_channels 18 = .ok (.iload_n 1, 1) := by decide +kernel
theorem dX3_channels_19 : decode cX3_channels 19 = .ok (.invokevirtual 49, 3) := by decide +kernel
theorem dX3_channels_22 : decode cX3_channels 22 = .ok (.aload_n 0, 1) := by decide +kernel
theorem dX3_channels_23 : decode cX3_channels 23 = .ok (.getfield 19, 3) := by decide +kernel
theorem dX3_channels_26 : decode cX3_channels 26 = .ok (.invokevirtual 53, 3) := by decide +kernel
theorem dX3_channels_29 : decode cX3_channels 29 = .ok (.aload_n 0, 1) := by decide +kernel
theorem dX3_channels_30 : decode cX3_channels 30 = .ok (.getfield 34, 3) := by decide +kernel
theorem dX3_channels_33 : decode cX3_channels 33 = .ok (.iconst 0, 1) := by decide +kernel
theorem dX3_channels_34 : decode cX3_channels 34 = .ok (.invokevirtual 56, 3) := by decide +kernel
theorem dX3_channels_37 : decode cX3_channels 37 = .ok (.aload_n 0, 1) := by decide +kernel
theorem dX3_channels_38 : decode cX3_channels 38 = .ok (.getfield 10, 3) := by decide +kernel
theorem dX3_channels_41 : decode cX3_channels 41 = .ok (.getfield 59, 3) := by decide +kernel
theorem dX3_channels_44 : decode cX3_channels 44 = .ok (.ireturn, 1) := by decide +kernel
set_option maxRecDepth 20000 in
theorem ggX3_user_X3_mayHave : GoodIn wsX3_user wsX3_mayHave := goodIn_r _ [10, 11] (by decide +kernel) (by decide +kernel)
set_option maxRecDepth 20000 in
theorem gX3_user_X3_mayHave : GoodIn wsX3_user (va_wsS RX3 63 yX3_mayHave wsX3_mayHave) := goodIn_app (goodIn_of _ (by decide +kernel)) ggX3_user_X3_mayHave
set_option maxRecDepth 20000 in
theorem ggX3_user_X1_remember : GoodIn wsX3_user wsX1_remember := goodIn_r _ [16, 17, 18, 19, 20, 21, 22, 23, 24, 25, 26, 27, 28, 29, 30, 31, 32, 33, 34, 35, 36, 37, 38, 69, 70, 71, 63, 64, 65, 66, 67, 68] (by decide +kernel) (by decide +kernel)
set_option maxRecDepth 20000 in
theorem gX3_user_X1_remember : GoodIn wsX3_user (wsV RX3 71 RX1 yX1_remember wsX1_remember) := goodIn_app (goodIn_of _ (by decide +kernel)) ggX3_user_X1_remember
set_option maxRecDepth 20000 in
theorem ggX3_user_X2_addUser : GoodIn wsX3_user wsX2_addUser := goodIn_r _ [42, 33, 31, 43, 44, 45, 27, 46, 29, 63, 64, 65, 66, 67, 68] (by decide +kernel) (by decide +kernel)
set_option maxRecDepth 20000 in
theorem gX3_user_X2_addUser : GoodIn wsX3_user (wsV RX3 75 RX2 yX2_addUser wsX2_addUser) := goodIn_app (goodIn_of _ (by decide +kernel)) ggX3_user_X2_addUser
set_option maxRecDepth 20000 in
theorem ggX3_user_X0_begin : GoodIn wsX3_user wsX0_begin := goodIn_r _ [51, 52, 53, 54, 72, 73, 74, 75] (by decide +kernel) (by decide +kernel)
set_option maxRecDepth 20000 in
theorem gX3_user_X0_begin : GoodIn wsX3_user (wsV RX3 56 RX0 yX0_begin wsX0_begin) := goodIn_app (goodIn_of _ (by decide +kernel)) ggX3_user_X0_begin
theorem dX3_user_0 : decode cX3_user 0 = .ok (.iconst 0, 1) := by decide +kernel
theorem dX3_user_1 : decode cX3_user 1 = .ok (.iload_n 1, 1) := by decide +kernel
theorem dX3_user_2 : decode cX3_user 2 = .ok (.invokestatic 63, 3) := by decide +kernel
theorem dX3_user_5 : decode cX3_user 5 = .ok (.ifCond .eq 28, 3) := by decide +kernel
theorem dX3_user_8 : decode cX3_user 8 = .ok (.iconst 1, 1) := by decide +kernel
theorem dX3_user_9 : decode cX3_user 9 = .ok (.iload_n 2, 1) := by decide +kernel
theorem dX3_user_10 : decode cX3_user 10 = .ok (.invokestatic 63, 3) := by decide +kernel
theorem dX3_user_13 : decode cX3_user 13 = .ok (.ifCond .eq 20, 3) := by decide +kernel
theorem dX3_user_16 : decode cX3_user 16 = .ok (.iconst 2, 1) := by decide +kernel
theorem dX3_user_17 : decode cX3_user 17 = .ok (.iload_n 3, 1) := by decide +kernel
theorem dX3_user_18 : decode cX3_user 18 = .ok (.invokestatic 63, 3) := by decide +kernel
theorem dX3_user_21 : decode cX3_user 21 = .ok (.ifCond .eq 12, 3) := by decide +kernel
theorem dX3_user_24 : decode cX3_user 24 = .ok (.iconst 3, 1) := by decide +kernel
theorem dX3_user_25 : decode cX3_user 25 = .ok (.iload 4, 2) := by decide +kernel
theorem dX3_user_27 : decode cX3_user 27 = .ok (.invokestatic 63, 3) := by decide +kernel
theorem dX3_user_30 : decode cX3_user 30 = .ok (.ifCond .ne 6, 3) := by decide +kernel
theorem dX3_user_33 : decode cX3_user 33 = .ok (.ldc 48, 2) := by decide +kernel
theorem dX3_user_35 : decode cX3_user 35 = .ok (.ireturn, 1) := by decide +kernel
theorem dX3_user_36 : decode cX3_user 36 = .ok (.aload_n 0, 1) := by decide +kernel
theorem dX3_user_37 : decode cX3_user 37 = .ok (.getfield 10, 3) := by decide +kernel
theorem dX3_user_40 : decode cX3_user 40 = .ok (.getfield 67, 3) := by decide +kernel
theorem dX3_user_43 : decode cX3_user 43 = .ok (.iconst 5, 1) := by decide +kernel
theorem dX3_user_44 : decode cX3_user 44 = .ok (.if_icmp .lt 6, 3) := by decide +kernel
theorem dX3_user_47 : decode cX3_user 47 = .ok (.ldc 70, 2) := by decide +kernel
theorem dX3_user_49 : decode cX3_user 49 = .ok (.ireturn, 1) := by decide +kernel
theorem dX3_user_50 : decode cX3_user 50 = .ok (.aload_n 0, 1) := by decide +kernel
theorem dX3_user_51 : decode cX3_user 51 = .ok (.getfield 19, 3) := by decide +kernel
theorem dX3_user_54 : decode cX3_user 54 = .ok (.aload_n 0, 1) := by decide +kernel
theorem dX3_user_55 : decode cX3_user 55 = .ok (.getfield 10, 3) := by decide +kernel
theorem dX3_user_58 : decode cX3_user 58 = .ok (.invokevirtual 71, 3) := by decide +kernel
theorem dX3_user_61 : decode cX3_user 61 = .ok (.aload_n 0, 1) := by decide +kernel
theorem dX3_user_62 : decode cX3_user 62 = .ok (.getfield 10, 3) := by decide +kernel
theorem dX3_user_65 : decode cX3_user 65 = .ok (.iload_n 1, 1) := by decide +kernel
theorem dX3_user_66 : decode cX3_user 66 = .ok (.iload_n 2, 1) := by decide +kernel
theorem dX3_user_67 : decode cX3_user 67 = .ok (.iload_n 3, 1) := by decide +kernel
theorem dX3_user_68 : decode cX3_user 68 = .ok (.iload 4, 2) := by decide +kernel
theorem dX3_user_70 : decode cX3_user 70 = .ok (.invokevirtual 75, 3) := by decide +kernel
theorem dX3_user_73 : decode cX3_user 73 = .ok (.aload_n 0, 1) := by decide +kernel
theorem dX3_user_74 : decode cX3_user 74 = .ok (.getfield 34, 3) := by decide +kernel
theorem dX3_user_77 : decode cX3_user 77 = .ok (.aload_n 0, 1) := by decide +kernel
theorem dX3_user_78 : decode cX3_user 78 = .ok (.getfield 10, 3) := by decide +kernel
theorem dX3_user_81 : decode cX3_user 81 = .ok (.getfield 67, 3) := by decide +kernel
theorem dX3_user_84 : decode cX3_user 84 = .ok (.invokevirtual 56, 3) := by decide +kernel
theorem dX3_user_87 : decode cX3_user 87 = .ok (.aload_n 0, 1) := by decide +kernel
theorem dX3_user_88 : decode cX3_user 88 = .ok (.getfield 10, 3) := by decide +kernel
theorem dX3_user_91 : decode cX3_user 91 = .ok (.getfield 67, 3) := by decide +kernel
theorem dX3_user_94 : decode cX3_user 94 = .ok (.iconst 1, 1) := by decide +kernel
theorem dX3_user_95 : decode cX3_user 95 = .ok (.isub, 1) := by decide +kernel
theorem dX3_user_96 : decode cX3_user 96 = .ok (.ireturn, 1) := by decide +kernel
set_option maxRecDepth 20000 in
theorem ggX3_open_X3_isUser : GoodIn wsX3_open wsX3_isUser := goodIn_r _ [8, 2, 9, 56, 57, 58, 59, 60, 61, 62, 63, 64, 65, 66, 67, 68, 69] (by decide +kernel) (by decide +kernel)
set_option maxRecDepth 20000 in
theorem gX3_open_X3_isUser : GoodIn wsX3_open (wsV RX3 79 RX3 yX3_isUser wsX3_isUser) := goodIn_app (goodIn_of _ (by decide +kernel)) ggX3_open_X3_isUser
set_option maxRecDepth 20000 in
theorem ggX3_open_X2_allChannels : GoodIn wsX3_open wsX2_allChannels := goodIn_r _ [14, 15, 64, 65, 66, 67, 68, 69] (by decide +kernel) (by decide +kernel)
set_option maxRecDepth 20000 in
theorem gX3_open_X2_allChannels : GoodIn wsX3_open (wsV RX3 84 RX2 yX2_allChannels wsX2_allChannels) := goodIn_app (goodIn_of _ (by decide +kernel)) ggX3_open_X2_allChannels
set_option maxRecDepth 20000 in
theorem ggX3_open_X3_change : GoodIn wsX3_open wsX3_change := goodIn_r _ [19, 20, 2, 21, 22, 9, 23, 24, 25, 26, 27, 28, 29, 30, 31, 32, 33, 34, 35, 36, 37, 13, 38, 15, 39, 40, 41, 42, 43, 44, 45, 46, 47, 48, 49, 50, 51, 52, 53, 54, 55, 56, 57, 58, 59, 60, 61, 62, 63, 64, 65, 66, 67, 68, 69, 70, 71, 72, 73, 74, 75, 76] (by decide +kernel) (by decide +kernel)
set_option maxRecDepth 20000 in
theorem gX3_open_X3_change : GoodIn wsX3_open (wsV RX3 88 RX3 yX3_change wsX3_change) := goodIn_app (goodIn_of _ (by decide +kernel)) ggX3_open_X3_change
theorem dX3_open_0 : decode cX3_open 0 = .ok (.aload_n 0, 1) := by decide +kernel
theorem dX3_open_1 : decode cX3_open 1 = .ok (.iload_n 1, 1) := by decide +kernel
theorem dX3_open_2 : decode cX3_open 2 = .ok (.invokevirtual 79, 3) := by decide +kernel
theorem dX3_open_5 : decode cX3_open 5 = .ok (.ifCond .ne 6, 3) := by decide +kernel
theorem dX3_open_8 : decode cX3_open 8 = .ok (.ldc 83, 2) := by decide +kernel
theorem dX3_open_10 : decode cX3_open 10 = .ok (.ireturn, 1) := by decide +kernel
theorem dX3_open_11 : decode cX3_open 11 = .ok (.iload_n 2, 1) := by decide +kernel
theorem dX3_open_12 : decode cX3_open 12 = .ok (.ifCond .lt 14, 3) := by decide +kernel
theorem dX3_open_15 : decode cX3_open 15 = .ok (.iload_n 2, 1) := by decide +kernel
theorem dX3_open_16 : decode cX3_open 16 = .ok (.aload_n 0, 1) := by decide +kernel
theorem dX3_open_17 : decode cX3_open 17 = .ok (.getfield 10, 3) := by decide +kernel
theorem dX3_open_20 : decode cX3_open 20 = .ok (.invokevirtual 84, 3) := by decide +kernel
theorem dX3_open_23 : decode cX3_open 23 = .ok (.if_icmp .le 6, 3) := by decide +kernel
theorem dX3_open_26 : decode cX3_open 26 = .ok (.ldc 48, 2) := by decide +kernel
theorem dX3_open_28 : decode cX3_open 28 = .ok (.ireturn, 1) := by decide +kernel
theorem dX3_open_29 : decode cX3_open 29 = .ok (.aload_n 0, 1) := by decide +kernel
theorem dX3_open_30 : decode cX3_open 30 = .ok (.iload_n 1, 1) := by decide +kernel
theorem dX3_open_31 : decode cX3_open 31 = .ok (.iconst 4, 1) := by decide +kernel
theorem dX3_open_32 : decode cX3_open 32 = .ok (.iload_n 2, 1) := by decide +kernel
theorem dX3_open_33 : decode cX3_open 33 = .ok (.invokevirtual 88, 3) := by decide +kernel
theorem dX3_open_36 : decode cX3_open 36 = .ok (.ireturn, 1) := by decide +kernel
set_option maxRecDepth 20000 in
theorem ggX3_set_X3_isUser : GoodIn wsX3_set wsX3_isUser := goodIn_r _ [7, 8, 9, 56, 57, 58, 59, 60, 61, 62, 63, 64, 65, 66, 67, 68, 69] (by decide +kernel) (by decide +kernel)
set_option maxRecDepth 20000 in
theorem gX3_set_X3_isUser : GoodIn wsX3_set (wsV RX3 79 RX3 yX3_isUser wsX3_isUser) := goodIn_app (goodIn_of _ (by decide +kernel)) ggX3_set_X3_isUser
set_option maxRecDepth 20000 in
theorem ggX3_set_X3_mayHave : GoodIn wsX3_set wsX3_mayHave := goodIn_r _ [12, 13] (by decide +kernel) (by decide +kernel)
set_option maxRecDepth 20000 in
theorem gX3_set_X3_mayHave : GoodIn wsX3_set (va_wsS RX3 63 yX3_mayHave wsX3_mayHave) := goodIn_app (goodIn_of _ (by decide +kernel)) ggX3_set_X3_mayHave
set_option maxRecDepth 20000 in
theorem ggX3_set_X3_change : GoodIn wsX3_set wsX3_change := goodIn_r _ [17, 18, 8, 19, 20, 9, 21, 22, 23, 24, 25, 26, 27, 28, 29, 30, 31, 32, 33, 34, 35, 36, 37, 38, 39, 40, 41, 42, 43, 44, 45, 46, 47, 48, 49, 50, 51, 52, 53, 54, 55, 56, 57, 58, 59, 60, 61, 62, 63, 64, 65, 66, 67, 68, 69, 70, 71, 72, 73, 74, 75, 76] (by decide +kernel) (by decide +kernel)
set_option maxRecDepth 20000 in
theorem gX3_set_X3_change : GoodIn wsX3_set (wsV RX3 88 RX3 yX3_change wsX3_change) := goodIn_app (goodIn_of _ (by decide +kernel)) ggX3_set_X3_change
theorem dX3_set_0 : decode cX3_set 0 = .ok (.aload_n 0, 1) := by decide +kernel
theorem dX3_set_1 : decode cX3_set 1 = .ok (.iload_n 1, 1) := by decide +kernel
theorem dX3_set_2 : decode cX3_set 2 = .ok (.invokevirtual 79, 3) := by decide +kernel
theorem dX3_set_5 : decode cX3_set 5 = .ok (.ifCond .ne 6, 3) := by decide +kernel
theorem dX3_set_8 : decode cX3_set 8 = .ok (.ldc 83, 2) := by decide +kernel
theorem dX3_set_10 : decode cX3_set 10 = .ok (.ireturn, 1) := by decide +kernel
theorem dX3_set_11 : decode cX3_set 11 = .ok (.iload_n 2, 1) := by decide +kernel
theorem dX3_set_12 : decode cX3_set 12 = .ok (.iload_n 3, 1) := by decide +kernel
theorem dX3_set_13 : decode cX3_set 13 = .ok (.invokestatic 63, 3) := by decide +kernel
theorem dX3_set_16 : decode cX3_set 16 = .ok (.ifCond .ne 6, 3) := by decide +kernel
theorem dX3_set_19 : decode cX3_set 19 = .ok (.ldc 48, 2) := by decide +kernel
theorem dX3_set_21 : decode cX3_set 21 = .ok (.ireturn, 1) := by decide +kernel
theorem dX3_set_22 : decode cX3_set 22 = .ok (.aload_n 0, 1) := by decide +kernel
theorem dX3_set_23 : decode cX3_set 23 = .ok (.iload_n 1, 1) := by decide +kernel
theorem dX3_set_24 : decode cX3_set 24 = .ok (.iload_n 2, 1) := by decide +kernel
theorem dX3_set_25 : decode cX3_set 25 = .ok (.iload_n 3, 1) := by decide +kernel
theorem dX3_set_26 : decode cX3_set 26 = .ok (.invokevirtual 88, 3) := by decide +kernel
theorem dX3_set_29 : decode cX3_set 29 = .ok (.ireturn, 1) := by decide +kernel
set_option maxRecDepth 20000 in
theorem ggX3_shut_X3_isUser : GoodIn wsX3_shut wsX3_isUser := goodIn_r _ [14, 2, 9, 54, 55, 56, 57, 58, 59, 60, 61, 62, 63, 64, 65, 66, 67] (by decide +kernel) (by decide +kernel)
set_option maxRecDepth 20000 in
theorem gX3_shut_X3_isUser : GoodIn wsX3_shut (wsV RX3 79 RX3 yX3_isUser wsX3_isUser) := goodIn_app (goodIn_of _ (by decide +kernel)) ggX3_shut_X3_isUser
set_option maxRecDepth 20000 in
theorem ggX3_shut_X1_remember : GoodIn wsX3_shut wsX1_remember := goodIn_r _ [19, 20, 21, 22, 23, 24, 25, 26, 27, 28, 29, 30, 31, 32, 33, 34, 35, 36, 37, 38, 39, 40, 41, 68, 69, 70, 62, 63, 64, 65, 66, 67] (by decide +kernel) (by decide +kernel)
set_option maxRecDepth 20000 in
theorem gX3_shut_X1_remember : GoodIn wsX3_shut (wsV RX3 71 RX1 yX1_remember wsX1_remember) := goodIn_app (goodIn_of _ (by decide +kernel)) ggX3_shut_X1_remember
set_option maxRecDepth 20000 in
theorem ggX3_shut_X2_addSpell : GoodIn wsX3_shut wsX2_addSpell := goodIn_r _ [45, 41, 35, 62, 63, 64, 65, 66, 67] (by decide +kernel) (by decide +kernel)
set_option maxRecDepth 20000 in
theorem gX3_shut_X2_addSpell : GoodIn wsX3_shut (wsV RX3 98 RX2 yX2_addSpell wsX2_addSpell) := goodIn_app (goodIn_of _ (by decide +kernel)) ggX3_shut_X2_addSpell
set_option maxRecDepth 20000 in
theorem ggX3_shut_X0_begin : GoodIn wsX3_shut wsX0_begin := goodIn_r _ [50, 51, 52, 53, 71, 72, 73, 74] (by decide +kernel) (by decide +kernel)
set_option maxRecDepth 20000 in
theorem gX3_shut_X0_begin : GoodIn wsX3_shut (wsV RX3 56 RX0 yX0_begin wsX0_begin) := goodIn_app (goodIn_of _ (by decide +kernel)) ggX3_shut_X0_begin
theorem dX3_shut_0 : decode cX3_shut 0 = .ok (.iload_n 1, 1) := by decide +kernel
theorem dX3_shut_1 : decode cX3_shut 1 = .ok (.iconst (-1), 1) := by decide +kernel
theorem dX3_shut_2 : decode cX3_shut 2 = .ok (.if_icmp .eq 14, 3) := by decide +kernel
theorem dX3_shut_5 : decode cX3_shut 5 = .ok (.aload_n 0, 1) := by decide +kernel
theorem dX3_shut_6 : decode cX3_shut 6 = .ok (.iload_n 1, 1) := by decide +kernel
theorem dX3_shut_7 : decode cX3_shut 7 = .ok (.invokevirtual 79, 3) := by decide +kernel
theorem dX3_shut_10 : decode cX3_shut 10 = .ok (.ifCond .ne 6, 3) := by decide +kernel
theorem dX3_shut_13 : decode cX3_shut 13 = .ok (.ldc 83, 2) := by decide +kernel
theorem dX3_shut_15 : decode cX3_shut 15 = .ok (.ireturn, 1) := by decide +kernel
theorem dX3_shut_16 : decode cX3_shut 16 = .ok (.iload_n 2, 1) := by decide +kernel
theorem dX3_shut_17 : decode cX3_shut 17 = .ok (.ifCond .lt 14, 3) := by decide +kernel
theorem dX3_shut_20 : decode cX3_shut 20 = .ok (.iload_n 2, 1) := by decide +kernel
theorem dX3_shut_21 : decode cX3_shut 21 = .ok (.aload_n 0, 1) := by decide +kernel
theorem dX3_shut_22 : decode cX3_shut 22 = .ok (.getfield 10, 3) := by decide +kernel
theorem dX3_shut_25 : decode cX3_shut 25 = .ok (.getfield 92, 3) := by decide +kernel
theorem dX3_shut_28 : decode cX3_shut 28 = .ok (.if_icmp .lt 6, 3) := by decide +kernel
theorem dX3_shut_31 : decode cX3_shut 31 = .ok (.ldc 83, 2) := by decide +kernel
theorem dX3_shut_33 : decode cX3_shut 33 = .ok (.ireturn, 1) := by decide +kernel
theorem dX3_shut_34 : decode cX3_shut 34 = .ok (.iload_n 3, 1) := by decide +kernel
theorem dX3_shut_35 : decode cX3_shut 35 = .ok (.ifCond .lt 24, 3) := by decide +kernel
theorem dX3_shut_38 : decode cX3_shut 38 = .ok (.iload_n 3, 1) := by decide +kernel
theorem dX3_shut_39 : decode cX3_shut 39 = .ok (.sipush 1500, 3) := by decide +kernel
theorem dX3_shut_42 : decode cX3_shut 42 = .ok (.if_icmp .gt 17, 3) := by decide +kernel
theorem dX3_shut_45 : decode cX3_shut 45 = .ok (.iload 4, 2) := by decide +kernel
theorem dX3_shut_47 : decode cX3_shut 47 = .ok (.iconst 1, 1) := by decide +kernel
theorem dX3_shut_48 : decode cX3_shut 48 = .ok (.if_icmp .lt 11, 3) := by decide +kernel
theorem dX3_shut_51 : decode cX3_shut 51 = .ok (.iload 4, 2) := by decide +kernel
theorem dX3_shut_53 : decode cX3_shut 53 = .ok (.sipush 500, 3) := by decide +kernel
theorem dX3_shut_56 : decode cX3_shut 56 = .ok (.if_icmp .le 6, 3) := by decide +kernel
theorem dX3_shut_59 : decode cX3_shut 59 = .ok (.ldc 48, 2) := by decide +kernel
theorem dX3_shut_61 : decode cX3_shut 61 = .ok (.ireturn, 1) := by decide +kernel
theorem dX3_shut_62 : decode cX3_shut 62 = .ok (.aload_n 0, 1) := by decide +kernel
theorem dX3_shut_63 : decode cX3_shut 63 = .ok (.getfield 10, 3) := by decide +kernel
theorem dX3_shut_66 : decode cX3_shut 66 = .ok (.getfield 95, 3) := by decide +kernel
theorem dX3_shut_69 : decode cX3_shut 69 = .ok (.bipush 8, 2) := by decide +kernel
theorem dX3_shut_71 : decode cX3_shut 71 = .ok (.if_icmp .lt 6, 3) := by decide +kernel
theorem dX3_shut_74 : decode cX3_shut 74 = .ok (.ldc 70, 2) := by decide +kernel
theorem dX3_shut_76 : decode cX3_shut 76 = .ok (.ireturn, 1) := by decide +kernel
theorem dX3_shut_77 : decode cX3_shut 77 = .ok (.aload_n 0, 1) := by decide +kernel
theorem dX3_shut_78 : decode cX3_shut 78 = .ok (.getfield 19, 3) := by decide +kernel
theorem dX3_shut_81 : decode cX3_shut 81 = .ok (.aload_n 0, 1) := by decide +kernel
theorem dX3_shut_82 : decode cX3_shut 82 = .ok (.getfield 10, 3) := by decide +kernel
theorem dX3_shut_85 : decode cX3_shut 85 = .ok (.invokevirtual 71, 3) := by decide +kernel
theorem dX3_shut_88 : decode cX3_shut 88 = .ok (.aload_n 0, 1) := by decide +kernel
theorem dX3_shut_89 : decode cX3_shut 89 = .ok (.getfield 10, 3) := by decide +kernel
theorem dX3_shut_92 : decode cX3_shut 92 = .ok (.iload_n 1, 1) := by decide +kernel
theorem dX3_shut_93 : decode cX3_shut 93 = .ok (.iload_n 2, 1) := by decide +kernel
theorem dX3_shut_94 : decode cX3_shut 94 = .ok (.iload_n 3, 1) := by decide +kernel
theorem dX3_shut_95 : decode cX3_shut 95 = .ok (.iload 4, 2) := by decide +kernel
theorem dX3_shut_97 : decode cX3_shut 97 = .ok (.invokevirtual 98, 3) := by decide +kernel
theorem dX3_shut_100 : decode cX3_shut 100 = .ok (.aload_n 0, 1) := by decide +kernel
theorem dX3_shut_101 : decode cX3_shut 101 = .ok (.getfield 34, 3) := by decide +kernel
theorem dX3_shut_104 : decode cX3_shut 104 = .ok (.aload_n 0, 1) := by decide +kernel
theorem dX3_shut_105 : decode cX3_shut 105 = .ok (.getfield 10, 3) := by decide +kernel
theorem dX3_shut_108 : decode cX3_shut 108 = .ok (.getfield 67, 3) := by decide +kernel
theorem dX3_shut_111 : decode cX3_shut 111 = .ok (.invokevirtual 56, 3) := by decide +kernel
theorem dX3_shut_114 : decode cX3_shut 114 = .ok (.aload_n 0, 1) := by decide +kernel
theorem dX3_shut_115 : decode cX3_shut 115 = .ok (.getfield 10, 3) := by decide +kernel
theorem dX3_shut_118 : decode cX3_shut 118 = .ok (.getfield 95, 3) := by decide +kernel
theorem dX3_shut_121 : decode cX3_shut 121 = .ok (.ireturn, 1) := by decide +kernel
set_option maxRecDepth 20000 in
theorem ggX3_drift_X1_remember : GoodIn wsX3_drift wsX1_remember := goodIn_r _ [12, 13, 14, 15, 16, 17, 18, 19, 20, 21, 22, 23, 24, 25, 26, 27, 28, 29, 30, 31, 32, 33, 34, 76, 77, 78, 70, 71, 72, 73, 74, 75] (by decide +kernel) (by decide +kernel)
set_option maxRecDepth 20000 in
theorem gX3_drift_X1_remember : GoodIn wsX3_drift (wsV RX3 71 RX1 yX1_remember wsX1_remember) := goodIn_app (goodIn_of _ (by decide +kernel)) ggX3_drift_X1_remember
set_option maxRecDepth 20000 in
theorem ggX3_drift_X2_drawLots : GoodIn wsX3_drift wsX2_drawLots := goodIn_r _ [38, 27, 29, 39, 40, 41, 42, 43, 23, 44, 25, 45, 46, 47, 48, 49, 70, 71, 72, 73, 74, 75] (by decide +kernel) (by decide +kernel)
set_option maxRecDepth 20000 in
theorem gX3_drift_X2_drawLots : GoodIn wsX3_drift (wsV RX3 103 RX2 yX2_drawLots wsX2_drawLots) := goodIn_app (goodIn_of _ (by decide +kernel)) ggX3_drift_X2_drawLots
set_option maxRecDepth 20000 in
theorem ggX3_drift_X0_begin : GoodIn wsX3_drift wsX0_begin := goodIn_r _ [54, 55, 56, 57, 79, 80, 81, 82] (by decide +kernel) (by decide +kernel)
set_option maxRecDepth 20000 in
theorem gX3_drift_X0_begin : GoodIn wsX3_drift (wsV RX3 56 RX0 yX0_begin wsX0_begin) := goodIn_app (goodIn_of _ (by decide +kernel)) ggX3_drift_X0_begin
set_option maxRecDepth 20000 in
theorem ggX3_drift_X2_commonChannels : GoodIn wsX3_drift wsX2_commonChannels := goodIn_r _ [61, 27, 29, 41, 42, 43, 23, 44, 25, 70, 71, 72, 73, 74, 75] (by decide +kernel) (by decide +kernel)
set_option maxRecDepth 20000 in
theorem gX3_drift_X2_commonChannels : GoodIn wsX3_drift (wsV RX3 106 RX2 yX2_commonChannels wsX2_commonChannels) := goodIn_app (goodIn_of _ (by decide +kernel)) ggX3_drift_X2_commonChannels
theorem dX3_drift_0 : decode cX3_drift 0 = .ok (.iload_n 1, 1) := by decide +kernel
theorem dX3_drift_1 : decode cX3_drift 1 = .ok (.iconst 1, 1) := by decide +kernel
theorem dX3_drift_2 : decode cX3_drift 2 = .ok (.if_icmp .lt 9, 3) := by decide +kernel
theorem dX3_drift_5 : decode cX3_drift 5 = .ok (.iload_n 1, 1) := by decide +kernel
theorem dX3_drift_6 : decode cX3_drift 6 = .ok (.ldc 101, 2) := by decide +kernel
theorem dX3_drift_8 : decode cX3_drift 8 = .ok (.if_icmp .le 6, 3) := by decide +kernel
theorem dX3_drift_11 : decode cX3_drift 11 = .ok (.ldc 48, 2) := by decide +kernel
theorem dX3_drift_13 : decode cX3_drift 13 = .ok (.ireturn, 1) := by decide +kernel
theorem dX3_drift_14 : decode cX3_drift 14 = .ok (.aload_n 0, 1) := by decide +kernel
theorem dX3_drift_15 : decode cX3_drift 15 = .ok (.getfield 10, 3) := by decide +kernel
theorem dX3_drift_18 : decode cX3_drift 18 = .ok (.getfield 67, 3) := by decide +kernel
theorem dX3_drift_21 : decode cX3_drift 21 = .ok (.ifCond .ne 6, 3) := by decide +kernel
theorem dX3_drift_24 : decode cX3_drift 24 = .ok (.ldc 102, 2) := by decide +kernel
theorem dX3_drift_26 : decode cX3_drift 26 = .ok (.ireturn, 1) := by decide +kernel
theorem dX3_drift_27 : decode cX3_drift 27 = .ok (.aload_n 0, 1) := by decide +kernel
theorem dX3_drift_28 : decode cX3_drift 28 = .ok (.getfield 19, 3) := by decide +kernel
theorem dX3_drift_31 : decode cX3_drift 31 = .ok (.aload_n 0, 1) := by decide +kernel
theorem dX3_drift_32 : decode cX3_drift 32 = .ok (.getfield 10, 3) := by decide +kernel
theorem dX3_drift_35 : decode cX3_drift 35 = .ok (.invokevirtual 71, 3) := by decide +kernel
theorem dX3_drift_38 : decode cX3_drift 38 = .ok (.aload_n 0, 1) := by decide +kernel
theorem dX3_drift_39 : decode cX3_drift 39 = .ok (.getfield 10, 3) := by decide +kernel
theorem dX3_drift_42 : decode cX3_drift 42 = .ok (.iload_n 1, 1) := by decide +kernel
theorem dX3_drift_43 : decode cX3_drift 43 = .ok (.invokevirtual 103, 3) := by decide +kernel
theorem dX3_drift_46 : decode cX3_drift 46 = .ok (.aload_n 0, 1) := by decide +kernel
theorem dX3_drift_47 : decode cX3_drift 47 = .ok (.getfield 34, 3) := by decide +kernel
theorem dX3_drift_50 : decode cX3_drift 50 = .ok (.aload_n 0, 1) := by decide +kernel
theorem dX3_drift_51 : decode cX3_drift 51 = .ok (.getfield 10, 3) := by decide +kernel
theorem dX3_drift_54 : decode cX3_drift 54 = .ok (.getfield 67, 3) := by decide +kernel
theorem dX3_drift_57 : decode cX3_drift 57 = .ok (.invokevirtual 56, 3) := by decide +kernel
theorem dX3_drift_60 : decode cX3_drift 60 = .ok (.aload_n 0, 1) := by decide +kernel
theorem dX3_drift_61 : decode cX3_drift 61 = .ok (.getfield 10, 3) := by decide +kernel
theorem dX3_drift_64 : decode cX3_drift 64 = .ok (.invokevirtual 106, 3) := by decide +kernel
theorem dX3_drift_67 : decode cX3_drift 67 = .ok (.ireturn, 1) := by decide +kernel
set_option maxRecDepth 20000 in
theorem ggX3_undo_X1_restore : GoodIn wsX3_undo wsX1_restore := goodIn_r _ [11, 12, 13, 14, 15, 16, 17, 18, 19, 20, 21, 22, 23, 24, 25, 26, 27, 28, 29, 46, 47, 48, 49, 50, 51, 52, 53, 54] (by decide +kernel) (by decide +kernel)
set_option maxRecDepth 20000 in
theorem gX3_undo_X1_restore : GoodIn wsX3_undo (wsV RX3 112 RX1 yX1_restore wsX1_restore) := goodIn_app (goodIn_of _ (by decide +kernel)) ggX3_undo_X1_restore
set_option maxRecDepth 20000 in
theorem ggX3_undo_X0_begin : GoodIn wsX3_undo wsX0_begin := goodIn_r _ [34, 35, 36, 37, 55, 56, 57, 58] (by decide +kernel) (by decide +kernel)
set_option maxRecDepth 20000 in
theorem gX3_undo_X0_begin : GoodIn wsX3_undo (wsV RX3 56 RX0 yX0_begin wsX0_begin) := goodIn_app (goodIn_of _ (by decide +kernel)) ggX3_undo_X0_begin
theorem dX3_undo_0 : decode cX3_undo 0 = .ok (.aload_n 0, 1) := by decide +kernel
theorem dX3_undo_1 : decode cX3_undo 1 = .ok (.getfield 19, 3) := by decide +kernel
theorem dX3_undo_4 : decode cX3_undo 4 = .ok (.getfield 109, 3) := by decide +kernel
theorem dX3_undo_7 : decode cX3_undo 7 = .ok (.ifCond .ne 6, 3) := by decide +kernel
theorem dX3_undo_10 : decode cX3_undo 10 = .ok (.ldc 102, 2) := by decide +kernel
theorem dX3_undo_12 : decode cX3_undo 12 = .ok (.ireturn, 1) := by decide +kernel
theorem dX3_undo_13 : decode cX3_undo 13 = .ok (.aload_n 0, 1) := by decide +kernel
theorem dX3_undo_14 : decode cX3_undo 14 = .ok (.getfield 19, 3) := by decide +kernel
theorem dX3_undo_17 : decode cX3_undo 17 = .ok (.aload_n 0, 1) := by decide +kernel
theorem dX3_undo_18 : decode cX3_undo 18 = .ok (.getfield 10, 3) := by decide +kernel
theorem dX3_undo_21 : decode cX3_undo 21 = .ok (.invokevirtual 112, 3) := by decide +kernel
theorem dX3_undo_24 : decode cX3_undo 24 = .ok (.aload_n 0, 1) := by decide +kernel
theorem dX3_undo_25 : decode cX3_undo 25 = .ok (.getfield 34, 3) := by decide +kernel
theorem dX3_undo_28 : decode cX3_undo 28 = .ok (.aload_n 0, 1) := by decide +kernel
theorem dX3_undo_29 : decode cX3_undo 29 = .ok (.getfield 10, 3) := by decide +kernel
theorem dX3_undo_32 : decode cX3_undo 32 = .ok (.getfield 67, 3) := by decide +kernel
theorem dX3_undo_35 : decode cX3_undo 35 = .ok (.invokevirtual 56, 3) := by decide +kernel
theorem dX3_undo_38 : decode cX3_undo 38 = .ok (.aload_n 0, 1) := by decide +kernel
theorem dX3_undo_39 : decode cX3_undo 39 = .ok (.getfield 19, 3) := by decide +kernel
theorem dX3_undo_42 : decode cX3_undo 42 = .ok (.getfield 109, 3) := by decide +kernel
theorem dX3_undo_45 : decode cX3_undo 45 = .ok (.ireturn, 1) := by decide +kernel
set_option maxRecDepth 20000 in
theorem ggX3_told_X2_commonChannels : GoodIn wsX3_told wsX2_commonChannels := goodIn_r _ [15, 16, 17, 18, 19, 20, 14, 21, 22, 38, 39, 40, 41, 42, 43] (by decide +kernel) (by decide +kernel)
set_option maxRecDepth 20000 in
theorem gX3_told_X2_commonChannels : GoodIn wsX3_told (wsV RX3 106 RX2 yX2_commonChannels wsX2_commonChannels) := goodIn_app (goodIn_of _ (by decide +kernel)) ggX3_told_X2_commonChannels
set_option maxRecDepth 20000 in
theorem ggX3_told_X0_howMany : GoodIn wsX3_told wsX0_howMany := goodIn_r _ [27, 28, 29, 44, 45, 46, 47] (by decide +kernel) (by decide +kernel)
set_option maxRecDepth 20000 in
theorem gX3_told_X0_howMany : GoodIn wsX3_told (wsV RX3 118 RX0 yX0_howMany wsX0_howMany) := goodIn_app (goodIn_of _ (by decide +kernel)) ggX3_told_X0_howMany
theorem dX3_told_0 : decode cX3_told 0 = .ok (.iload_n 1, 1) := by decide +kernel
theorem dX3_told_1 : decode cX3_told 1 = .ok (.tableswitch 132 0 8 #[51, 59, 67, 75, 83, 91, 99, 107, 124], 51) := by decide +kernel
theorem dX3_told_52 : decode cX3_told 52 = .ok (.aload_n 0, 1) := by decide +kernel
theorem dX3_told_53 : decode cX3_told 53 = .ok (.getfield 10, 3) := by decide +kernel
theorem dX3_told_56 : decode cX3_told 56 = .ok (.getfield 92, 3) := by decide +kernel
theorem dX3_told_59 : decode cX3_told 59 = .ok (.ireturn, 1) := by decide +kernel
theorem dX3_told_60 : decode cX3_told 60 = .ok (.aload_n 0, 1) := by decide +kernel
theorem dX3_told_61 : decode cX3_told 61 = .ok (.getfield 10, 3) := by decide +kernel
theorem dX3_told_64 : decode cX3_told 64 = .ok (.getfield 59, 3) := by decide +kernel
theorem dX3_told_67 : decode cX3_told 67 = .ok (.ireturn, 1) := by decide +kernel
theorem dX3_told_68 : decode cX3_told 68 = .ok (.aload_n 0, 1) := by decide +kernel
theorem dX3_told_69 : decode cX3_told 69 = .ok (.getfield 10, 3) := by decide +kernel
theorem dX3_told_72 : decode cX3_told 72 = .ok (.getfield 67, 3) := by decide +kernel
theorem dX3_told_75 : decode cX3_told 75 = .ok (.ireturn, 1) := by decide +kernel
theorem dX3_told_76 : decode cX3_told 76 = .ok (.aload_n 0, 1) := by decide +kernel
theorem dX3_told_77 : decode cX3_told 77 = .ok (.getfield 10, 3) := by decide +kernel
theorem dX3_told_80 : decode cX3_told 80 = .ok (.getfield 95, 3) := by decide +kernel
theorem dX3_told_83 : decode cX3_told 83 = .ok (.ireturn, 1) := by decide +kernel
theorem dX3_told_84 : decode cX3_told 84 = .ok (.aload_n 0, 1) := by decide +kernel
theorem dX3_told_85 : decode cX3_told 85 = .ok (.getfield 10, 3) := by decide +kernel
theorem dX3_told_88 : decode cX3_told 88 = .ok (.invokevirtual 106, 3) := by decide +kernel
theorem dX3_told_91 : decode cX3_told 91 = .ok (.ireturn, 1) := by decide +kernel
theorem dX3_told_92 : decode cX3_told 92 = .ok (.aload_n 0, 1) := by decide +kernel
theorem dX3_told_93 : decode cX3_told 93 = .ok (.getfield 34, 3) := by decide +kernel
theorem dX3_told_96 : decode cX3_told 96 = .ok (.getfield 115, 3) := by decide +kernel
theorem dX3_told_99 : decode cX3_told 99 = .ok (.ireturn, 1) := by decide +kernel
theorem dX3_told_100 : decode cX3_told 100 = .ok (.aload_n 0, 1) := by decide +kernel
theorem dX3_told_101 : decode cX3_told 101 = .ok (.getfield 34, 3) := by decide +kernel
theorem dX3_told_104 : decode cX3_told 104 = .ok (.invokevirtual 118, 3) := by decide +kernel
theorem dX3_told_107 : decode cX3_told 107 = .ok (.ireturn, 1) := by decide +kernel
theorem dX3_told_108 : decode cX3_told 108 = .ok (.aload_n 0, 1) := by decide +kernel
theorem dX3_told_109 : decode cX3_told 109 = .ok (.getfield 34, 3) := by decide +kernel
theorem dX3_told_112 : decode cX3_told 112 = .ok (.invokevirtual 118, 3) := by decide +kernel
theorem dX3_told_115 : decode cX3_told 115 = .ok (.iconst 1, 1) := by decide +kernel
theorem dX3_told_116 : decode cX3_told 116 = .ok (.if_icmp .ne 7, 3) := by decide +kernel
theorem dX3_told_119 : decode cX3_told 119 = .ok (.iconst 1, 1) := by decide +kernel
theorem dX3_told_120 : decode cX3_told 120 = .ok (.goto 4, 3) := by decide +kernel
theorem dX3_told_123 : decode cX3_told 123 = .ok (.iconst 0, 1) := by decide +kernel
theorem dX3_told_124 : decode cX3_told 124 = .ok (.ireturn, 1) := by decide +kernel
theorem dX3_told_125 : decode cX3_told 125 = .ok (.aload_n 0, 1) := by decide +kernel
theorem dX3_told_126 : decode cX3_told 126 = .ok (.getfield 19, 3) := by decide +kernel
theorem dX3_told_129 : decode cX3_told 129 = .ok (.getfield 109, 3) := by decide +kernel
theorem dX3_told_132 : decode cX3_told 132 = .ok (.ireturn, 1) := by decide +kernel
theorem dX3_told_133 : decode cX3_told 133 = .ok (.ldc 48, 2) := by decide +kernel
theorem dX3_told_135 : decode cX3_told 135 = .ok (.ireturn, 1) := by decide +kernel
set_option maxRecDepth 20000 in
theorem ggX3_userOf_X3_isUser : GoodIn wsX3_userOf wsX3_isUser := goodIn_r _ [11, 5, 12, 20, 21, 22, 23, 24, 25, 26, 27, 32, 33, 34, 35, 36, 37] (by decide +kernel) (by decide +kernel)
set_option maxRecDepth 20000 in
theorem gX3_userOf_X3_isUser : GoodIn wsX3_userOf (wsV RX3 79 RX3 yX3_isUser wsX3_isUser) := goodIn_app (goodIn_of _ (by decide +kernel)) ggX3_userOf_X3_isUser
set_option maxRecDepth 20000 in
theorem ggX3_userOf_X0_sizeOfGroupOf : GoodIn wsX3_userOf wsX0_sizeOfGroupOf := goodIn_r _ [17, 18, 19, 28, 29, 30, 31] (by decide +kernel) (by decide +kernel)
set_option maxRecDepth 20000 in
theorem gX3_userOf_X0_sizeOfGroupOf : GoodIn wsX3_userOf (wsV RX3 124 RX0 yX0_sizeOfGroupOf wsX0_sizeOfGroupOf) := goodIn_app (goodIn_of _ (by decide +kernel)) ggX3_userOf_X0_sizeOfGroupOf
theorem dX3_userOf_0 : decode cX3_userOf 0 = .ok (.aload_n 0, 1) := by decide +kernel
theorem dX3_userOf_1 : decode cX3_userOf 1 = .ok (.iload_n 1, 1) := by decide +kernel
theorem dX3_userOf_2 : decode cX3_userOf 2 = .ok (.invokevirtual 79, 3) := by decide +kernel
theorem dX3_userOf_5 : decode cX3_userOf 5 = .ok (.ifCond .ne 6, 3) := by decide +kernel
theorem dX3_userOf_8 : decode cX3_userOf 8 = .ok (.ldc 83, 2) := by decide +kernel
theorem dX3_userOf_10 : decode cX3_userOf 10 = .ok (.ireturn, 1) := by decide +kernel
theorem dX3_userOf_11 : decode cX3_userOf 11 = .ok (.iload_n 2, 1) := by decide +kernel
theorem dX3_userOf_12 : decode cX3_userOf 12 = .ok (.ifCond .lt 9, 3) := by decide +kernel
theorem dX3_userOf_15 : decode cX3_userOf 15 = .ok (.iload_n 2, 1) := by decide +kernel
theorem dX3_userOf_16 : decode cX3_userOf 16 = .ok (.bipush 6, 2) := by decide +kernel
theorem dX3_userOf_18 : decode cX3_userOf 18 = .ok (.if_icmp .le 6, 3) := by decide +kernel
theorem dX3_userOf_21 : decode cX3_userOf 21 = .ok (.ldc 48, 2) := by decide +kernel
theorem dX3_userOf_23 : decode cX3_userOf 23 = .ok (.ireturn, 1) := by decide +kernel
theorem dX3_userOf_24 : decode cX3_userOf 24 = .ok (.iload_n 2, 1) := by decide +kernel
theorem dX3_userOf_25 : decode cX3_userOf 25 = .ok (.iconst 5, 1) := by decide +kernel
theorem dX3_userOf_26 : decode cX3_userOf 26 = .ok (.if_icmp .ne 13, 3) := by decide +kernel
theorem dX3_userOf_29 : decode cX3_userOf 29 = .ok (.aload_n 0, 1) := by decide +kernel
theorem dX3_userOf_30 : decode cX3_userOf 30 = .ok (.getfield 34, 3) := by decide +kernel
theorem dX3_userOf_33 : decode cX3_userOf 33 = .ok (.getfield 121, 3) := by decide +kernel
theorem dX3_userOf_36 : decode cX3_userOf 36 = .ok (.iload_n 1, 1) := by decide +kernel
theorem dX3_userOf_37 : decode cX3_userOf 37 = .ok (.iaload, 1) := by decide +kernel
theorem dX3_userOf_38 : decode cX3_userOf 38 = .ok (.ireturn, 1) := by decide +kernel
theorem dX3_userOf_39 : decode cX3_userOf 39 = .ok (.iload_n 2, 1) := by decide +kernel
theorem dX3_userOf_40 : decode cX3_userOf 40 = .ok (.bipush 6, 2) := by decide +kernel
theorem dX3_userOf_42 : decode cX3_userOf 42 = .ok (.if_icmp .ne 12, 3) := by decide +kernel
theorem dX3_userOf_45 : decode cX3_userOf 45 = .ok (.aload_n 0, 1) := by decide +kernel
theorem dX3_userOf_46 : decode cX3_userOf 46 = .ok (.getfield 34, 3) := by decide +kernel
theorem dX3_userOf_49 : decode cX3_userOf 49 = .ok (.iload_n 1, 1) := by decide +kernel
theorem dX3_userOf_50 : decode cX3_userOf 50 = .ok (.invokevirtual 124, 3) := by decide +kernel
theorem dX3_userOf_53 : decode cX3_userOf 53 = .ok (.ireturn, 1) := by decide +kernel
theorem dX3_userOf_54 : decode cX3_userOf 54 = .ok (.aload_n 0, 1) := by decide +kernel
theorem dX3_userOf_55 : decode cX3_userOf 55 = .ok (.getfield 10, 3) := by decide +kernel
theorem dX3_userOf_58 : decode cX3_userOf 58 = .ok (.getfield 128, 3) := by decide +kernel
theorem dX3_userOf_61 : decode cX3_userOf 61 = .ok (.iload_n 1, 1) := by decide +kernel
theorem dX3_userOf_62 : decode cX3_userOf 62 = .ok (.aaload, 1) := by decide +kernel
theorem dX3_userOf_63 : decode cX3_userOf 63 = .ok (.iload_n 2, 1) := by decide +kernel
theorem dX3_userOf_64 : decode cX3_userOf 64 = .ok (.iaload, 1) := by decide +kernel
theorem dX3_userOf_65 : decode cX3_userOf 65 = .ok (.ireturn, 1) := by decide +kernel
set_option maxRecDepth 20000 in
theorem ggX3_pointsAt_X3_isUser : GoodIn wsX3_pointsAt wsX3_isUser := goodIn_r _ [8, 3, 9, 29, 30, 31, 32, 33, 34, 35, 36, 37, 38, 39, 40, 41, 42] (by decide +kernel) (by decide +kernel)
set_option maxRecDepth 20000 in
theorem gX3_pointsAt_X3_isUser : GoodIn wsX3_pointsAt (wsV RX3 79 RX3 yX3_isUser wsX3_isUser) := goodIn_app (goodIn_of _ (by decide +kernel)) ggX3_pointsAt_X3_isUser
set_option maxRecDepth 20000 in
theorem ggX3_pointsAt_X3_isSlotAsked : GoodIn wsX3_pointsAt wsX3_isSlotAsked := goodIn_r _ [12] (by decide +kernel) (by decide +kernel)
set_option maxRecDepth 20000 in
theorem gX3_pointsAt_X3_isSlotAsked : GoodIn wsX3_pointsAt (va_wsS RX3 132 yX3_isSlotAsked wsX3_isSlotAsked) := goodIn_app (goodIn_of _ (by decide +kernel)) ggX3_pointsAt_X3_isSlotAsked
set_option maxRecDepth 20000 in
theorem ggX3_pointsAt_X2_clockOf : GoodIn wsX3_pointsAt wsX2_clockOf := goodIn_r _ [17, 18, 37, 38, 39, 40, 41, 42] (by decide +kernel) (by decide +kernel)
set_option maxRecDepth 20000 in
theorem gX3_pointsAt_X2_clockOf : GoodIn wsX3_pointsAt (wsV RX3 135 RX2 yX2_clockOf wsX2_clockOf) := goodIn_app (goodIn_of _ (by decide +kernel)) ggX3_pointsAt_X2_clockOf
set_option maxRecDepth 20000 in
theorem ggX3_pointsAt_X2_aim : GoodIn wsX3_pointsAt wsX2_aim := goodIn_r _ [22, 18, 23, 24, 25, 26, 27, 16, 28, 37, 38, 39, 40, 41, 42] (by decide +kernel) (by decide +kernel)
set_option maxRecDepth 20000 in
theorem gX3_pointsAt_X2_aim : GoodIn wsX3_pointsAt (wsV RX3 139 RX2 yX2_aim wsX2_aim) := goodIn_app (goodIn_of _ (by decide +kernel)) ggX3_pointsAt_X2_aim
theorem dX3_pointsAt_0 : decode cX3_pointsAt 0 = .ok (.aload_n 0, 1) := by decide +kernel
theorem dX3_pointsAt_1 : decode cX3_pointsAt 1 = .ok (.iload_n 1, 1) := by decide +kernel
theorem dX3_pointsAt_2 : decode cX3_pointsAt 2 = .ok (.invokevirtual 79, 3) := by decide +kernel
theorem dX3_pointsAt_5 : decode cX3_pointsAt 5 = .ok (.ifCond .ne 6, 3) := by decide +kernel
theorem dX3_pointsAt_8 : decode cX3_pointsAt 8 = .ok (.ldc 83, 2) := by decide +kernel
theorem dX3_pointsAt_10 : decode cX3_pointsAt 10 = .ok (.ireturn, 1) := by decide +kernel
theorem dX3_pointsAt_11 : decode cX3_pointsAt 11 = .ok (.iload_n 2, 1) := by decide +kernel
theorem dX3_pointsAt_12 : decode cX3_pointsAt 12 = .ok (.invokestatic 132, 3) := by decide +kernel
theorem dX3_pointsAt_15 : decode cX3_pointsAt 15 = .ok (.ifCond .ne 6, 3) := by decide +kernel
theorem dX3_pointsAt_18 : decode cX3_pointsAt 18 = .ok (.ldc 48, 2) := by decide +kernel
theorem dX3_pointsAt_20 : decode cX3_pointsAt 20 = .ok (.ireturn, 1) := by decide +kernel
theorem dX3_pointsAt_21 : decode cX3_pointsAt 21 = .ok (.aload_n 0, 1) := by decide +kernel
theorem dX3_pointsAt_22 : decode cX3_pointsAt 22 = .ok (.getfield 10, 3) := by decide +kernel
theorem dX3_pointsAt_25 : decode cX3_pointsAt 25 = .ok (.iload_n 1, 1) := by decide +kernel
theorem dX3_pointsAt_26 : decode cX3_pointsAt 26 = .ok (.iload_n 2, 1) := by decide +kernel
theorem dX3_pointsAt_27 : decode cX3_pointsAt 27 = .ok (.invokevirtual 135, 3) := by decide +kernel
theorem dX3_pointsAt_30 : decode cX3_pointsAt 30 = .ok (.istore_n 3, 1) := by decide +kernel
theorem dX3_pointsAt_31 : decode cX3_pointsAt 31 = .ok (.iload_n 3, 1) := by decide +kernel
theorem dX3_pointsAt_32 : decode cX3_pointsAt 32 = .ok (.ifCond .ge 7, 3) := by decide +kernel
theorem dX3_pointsAt_35 : decode cX3_pointsAt 35 = .ok (.iconst (-1), 1) := by decide +kernel
theorem dX3_pointsAt_36 : decode cX3_pointsAt 36 = .ok (.goto 12, 3) := by decide +kernel
theorem dX3_pointsAt_39 : decode cX3_pointsAt 39 = .ok (.aload_n 0, 1) := by decide +kernel
theorem dX3_pointsAt_40 : decode cX3_pointsAt 40 = .ok (.getfield 10, 3) := by decide +kernel
theorem dX3_pointsAt_43 : decode cX3_pointsAt 43 = .ok (.iload_n 1, 1) := by decide +kernel
theorem dX3_pointsAt_44 : decode cX3_pointsAt 44 = .ok (.iload_n 3, 1) := by decide +kernel
theorem dX3_pointsAt_45 : decode cX3_pointsAt 45 = .ok (.invokevirtual 139, 3) := by decide +kernel
theorem dX3_pointsAt_48 : decode cX3_pointsAt 48 = .ok (.ireturn, 1) := by decide +kernel
set_option maxRecDepth 20000 in
theorem ggX3_on_X3_isUser : GoodIn wsX3_on wsX3_isUser := goodIn_r _ [8, 2, 9, 56, 57, 58, 59, 60, 61, 62, 63, 64, 65, 66, 67, 68, 69] (by decide +kernel) (by decide +kernel)
set_option maxRecDepth 20000 in
theorem gX3_on_X3_isUser : GoodIn wsX3_on (wsV RX3 79 RX3 yX3_isUser wsX3_isUser) := goodIn_app (goodIn_of _ (by decide +kernel)) ggX3_on_X3_isUser
set_option maxRecDepth 20000 in
theorem ggX3_on_X3_isSlotAsked : GoodIn wsX3_on wsX3_isSlotAsked := goodIn_r _ [12] (by decide +kernel) (by decide +kernel)
set_option maxRecDepth 20000 in
theorem gX3_on_X3_isSlotAsked : GoodIn wsX3_on (va_wsS RX3 132 yX3_isSlotAsked wsX3_isSlotAsked) := goodIn_app (goodIn_of _ (by decide +kernel)) ggX3_on_X3_isSlotAsked
set_option maxRecDepth 20000 in
theorem ggX3_on_X2_place : GoodIn wsX3_on wsX2_place := goodIn_r _ [17, 18, 19, 20, 16, 21, 22, 23, 24, 25, 26, 27, 28, 29, 30, 31, 32, 33, 34, 35, 36, 37, 38, 39, 40, 41, 42, 43, 44, 45, 46, 47, 48, 49, 50, 51, 52, 53, 54, 55, 64, 65, 66, 67, 68, 69] (by decide +kernel) (by decide +kernel)
set_option maxRecDepth 20000 in
theorem gX3_on_X2_place : GoodIn wsX3_on (wsV RX3 142 RX2 yX2_place wsX2_place) := goodIn_app (goodIn_of _ (by decide +kernel)) ggX3_on_X2_place
theorem dX3_on_0 : decode cX3_on 0 = .ok (.aload_n 0, 1) := by decide +kernel
theorem dX3_on_1 : decode cX3_on 1 = .ok (.iload_n 1, 1) := by decide +kernel
theorem dX3_on_2 : decode cX3_on 2 = .ok (.invokevirtual 79, 3) := by decide +kernel
theorem dX3_on_5 : decode cX3_on 5 = .ok (.ifCond .ne 6, 3) := by decide +kernel
theorem dX3_on_8 : decode cX3_on 8 = .ok (.ldc 83, 2) := by decide +kernel
theorem dX3_on_10 : decode cX3_on 10 = .ok (.ireturn, 1) := by decide +kernel
theorem dX3_on_11 : decode cX3_on 11 = .ok (.iload_n 2, 1) := by decide +kernel
theorem dX3_on_12 : decode cX3_on 12 = .ok (.invokestatic 132, 3) := by decide +kernel
theorem dX3_on_15 : decode cX3_on 15 = .ok (.ifCond .eq 15, 3) := by decide +kernel
theorem dX3_on_18 : decode cX3_on 18 = .ok (.aload_n 0, 1) := by decide +kernel
theorem dX3_on_19 : decode cX3_on 19 = .ok (.getfield 10, 3) := by decide +kernel
theorem dX3_on_22 : decode cX3_on 22 = .ok (.iload_n 1, 1) := by decide +kernel
theorem dX3_on_23 : decode cX3_on 23 = .ok (.iload_n 2, 1) := by decide +kernel
theorem dX3_on_24 : decode cX3_on 24 = .ok (.invokevirtual 142, 3) := by decide +kernel
theorem dX3_on_27 : decode cX3_on 27 = .ok (.goto 5, 3) := by decide +kernel
theorem dX3_on_30 : decode cX3_on 30 = .ok (.ldc 48, 2) := by decide +kernel
theorem dX3_on_32 : decode cX3_on 32 = .ok (.ireturn, 1) := by decide +kernel
set_option maxRecDepth 20000 in
theorem ggX3_why_X3_isUser : GoodIn wsX3_why wsX3_isUser := goodIn_r _ [8, 2, 9, 56, 57, 58, 59, 60, 61, 62, 63, 64, 65, 66, 67, 68, 69] (by decide +kernel) (by decide +kernel)
set_option maxRecDepth 20000 in
theorem gX3_why_X3_isUser : GoodIn wsX3_why (wsV RX3 79 RX3 yX3_isUser wsX3_isUser) := goodIn_app (goodIn_of _ (by decide +kernel)) ggX3_why_X3_isUser
set_option maxRecDepth 20000 in
theorem ggX3_why_X3_isSlotAsked : GoodIn wsX3_why wsX3_isSlotAsked := goodIn_r _ [12] (by decide +kernel) (by decide +kernel)
set_option maxRecDepth 20000 in
theorem gX3_why_X3_isSlotAsked : GoodIn wsX3_why (va_wsS RX3 132 yX3_isSlotAsked wsX3_isSlotAsked) := goodIn_app (goodIn_of _ (by decide +kernel)) ggX3_why_X3_isSlotAsked
set_option maxRecDepth 20000 in
theorem ggX3_why_X2_whyNowhere : GoodIn wsX3_why wsX2_whyNowhere := goodIn_r _ [17, 18, 19, 20, 16, 21, 22, 23, 24, 25, 26, 27, 28, 29, 30, 31, 32, 33, 34, 35, 36, 37, 38, 39, 40, 41, 42, 43, 44, 45, 46, 47, 48, 49, 50, 51, 52, 53, 54, 55, 64, 65, 66, 67, 68, 69] (by decide +kernel) (by decide +kernel)
set_option maxRecDepth 20000 in
theorem gX3_why_X2_whyNowhere : GoodIn wsX3_why (wsV RX3 145 RX2 yX2_whyNowhere wsX2_whyNowhere) := goodIn_app (goodIn_of _ (by decide +kernel)) ggX3_why_X2_whyNowhere
theorem dX3_why_0 : decode cX3_why 0 = .ok (.aload_n 0, 1) := by decide +kernel
theorem dX3_why_1 : decode cX3_why 1 = .ok (.iload_n 1, 1) := by decide +kernel
theorem dX3_why_2 : decode cX3_why 2 = .ok (.invokevirtual 79, 3) := by decide +kernel
theorem dX3_why_5 : decode cX3_why 5 = .ok (.ifCond .ne 6, 3) := by decide +kernel
theorem dX3_why_8 : decode cX3_why 8 = .ok (.ldc 83, 2) := by decide +kernel
theorem dX3_why_10 : decode cX3_why 10 = .ok (.ireturn, 1) := by decide +kernel
theorem dX3_why_11 : decode cX3_why 11 = .ok (.iload_n 2, 1) := by decide +kernel
theorem dX3_why_12 : decode cX3_why 12 = .ok (.invokestatic 132, 3) := by decide +kernel
theorem dX3_why_15 : decode cX3_why 15 = .ok (.ifCond .eq 15, 3) := by decide +kernel
theorem dX3_why_18 : decode cX3_why 18 = .ok (.aload_n 0, 1) := by decide +kernel
theorem dX3_why_19 : decode cX3_why 19 = .ok (.getfield 10, 3) := by decide +kernel
theorem dX3_why_22 : decode cX3_why 22 = .ok (.iload_n 1, 1) := by decide +kernel
theorem dX3_why_23 : decode cX3_why 23 = .ok (.iload_n 2, 1) := by decide +kernel
theorem dX3_why_24 : decode cX3_why 24 = .ok (.invokevirtual 145, 3) := by decide +kernel
theorem dX3_why_27 : decode cX3_why 27 = .ok (.goto 5, 3) := by decide +kernel
theorem dX3_why_30 : decode cX3_why 30 = .ok (.ldc 48, 2) := by decide +kernel
theorem dX3_why_32 : decode cX3_why 32 = .ok (.ireturn, 1) := by decide +kernel
set_option maxRecDepth 20000 in
theorem ggX3_first_X3_areTwoUsers : GoodIn wsX3_first wsX3_areTwoUsers := goodIn_r _ [7, 8, 9, 10, 6, 11, 2, 12, 60, 61, 62, 63, 64, 65, 66, 67, 68, 69, 70, 71, 72, 73] (by decide +kernel) (by decide +kernel)
set_option maxRecDepth 20000 in
theorem gX3_first_X3_areTwoUsers : GoodIn wsX3_first (wsV RX3 148 RX3 yX3_areTwoUsers wsX3_areTwoUsers) := goodIn_app (goodIn_of _ (by decide +kernel)) ggX3_first_X3_areTwoUsers
set_option maxRecDepth 20000 in
theorem ggX3_first_X2_meet : GoodIn wsX3_first wsX2_meet := goodIn_r _ [17, 18, 19, 20, 16, 21, 22, 23, 24, 25, 26, 27, 28, 29, 30, 31, 32, 33, 34, 35, 36, 37, 38, 39, 40, 41, 42, 43, 44, 45, 46, 47, 48, 49, 50, 51, 52, 53, 54, 55, 56, 57, 58, 59, 68, 69, 70, 71, 72, 73] (by decide +kernel) (by decide +kernel)
set_option maxRecDepth 20000 in
theorem gX3_first_X2_meet : GoodIn wsX3_first (wsV RX3 151 RX2 yX2_meet wsX2_meet) := goodIn_app (goodIn_of _ (by decide +kernel)) ggX3_first_X2_meet
theorem dX3_first_0 : decode cX3_first 0 = .ok (.aload_n 0, 1) := by decide +kernel
theorem dX3_first_1 : decode cX3_first 1 = .ok (.iload_n 1, 1) := by decide +kernel
theorem dX3_first_2 : decode cX3_first 2 = .ok (.iload_n 2, 1) := by decide +kernel
theorem dX3_first_3 : decode cX3_first 3 = .ok (.invokevirtual 148, 3) := by decide +kernel
theorem dX3_first_6 : decode cX3_first 6 = .ok (.ifCond .ne 6, 3) := by decide +kernel
theorem dX3_first_9 : decode cX3_first 9 = .ok (.ldc 83, 2) := by decide +kernel
theorem dX3_first_11 : decode cX3_first 11 = .ok (.ireturn, 1) := by decide +kernel
theorem dX3_first_12 : decode cX3_first 12 = .ok (.iconst 0, 1) := by decide +kernel
theorem dX3_first_13 : decode cX3_first 13 = .ok (.istore_n 3, 1) := by decide +kernel
theorem dX3_first_14 : decode cX3_first 14 = .ok (.iload_n 3, 1) := by decide +kernel
theorem dX3_first_15 : decode cX3_first 15 = .ok (.sipush 1500, 3) := by decide +kernel
theorem dX3_first_18 : decode cX3_first 18 = .ok (.if_icmp .ge 24, 3) := by decide +kernel
theorem dX3_first_21 : decode cX3_first 21 = .ok (.aload_n 0, 1) := by decide +kernel
theorem dX3_first_22 : decode cX3_first 22 = .ok (.getfield 10, 3) := by decide +kernel
theorem dX3_first_25 : decode cX3_first 25 = .ok (.iload_n 1, 1) := by decide +kernel
theorem dX3_first_26 : decode cX3_first 26 = .ok (.iload_n 2, 1) := by decide +kernel
theorem dX3_first_27 : decode cX3_first 27 = .ok (.iload_n 3, 1) := by decide +kernel
theorem dX3_first_28 : decode cX3_first 28 = .ok (.invokevirtual 151, 3) := by decide +kernel
theorem dX3_first_31 : decode cX3_first 31 = .ok (.ifCond .eq 5, 3) := by decide +kernel
theorem dX3_first_34 : decode cX3_first 34 = .ok (.iload_n 3, 1) := by decide +kernel
theorem dX3_first_35 : decode cX3_first 35 = .ok (.ireturn, 1) := by decide +kernel
theorem dX3_first_36 : decode cX3_first 36 = .ok (.iinc 3 1, 3) := by decide +kernel
theorem dX3_first_39 : decode cX3_first 39 = .ok (.goto (-25), 3) := by decide +kernel
theorem dX3_first_42 : decode cX3_first 42 = .ok (.iconst (-1), 1) := by decide +kernel
theorem dX3_first_43 : decode cX3_first 43 = .ok (.ireturn, 1) := by decide +kernel
set_option maxRecDepth 20000 in
theorem ggX3_worst_X3_areTwoUsers : GoodIn wsX3_worst wsX3_areTwoUsers := goodIn_r _ [7, 8, 9, 10, 6, 11, 12, 13, 61, 62, 63, 64, 65, 66, 67, 68, 69, 70, 71, 72, 73, 74] (by decide +kernel) (by decide +kernel)
set_option maxRecDepth 20000 in
theorem gX3_worst_X3_areTwoUsers : GoodIn wsX3_worst (wsV RX3 148 RX3 yX3_areTwoUsers wsX3_areTwoUsers) := goodIn_app (goodIn_of _ (by decide +kernel)) ggX3_worst_X3_areTwoUsers
set_option maxRecDepth 20000 in
theorem ggX3_worst_X3_isShift : GoodIn wsX3_worst wsX3_isShift := goodIn_r _ [16] (by decide +kernel) (by decide +kernel)
set_option maxRecDepth 20000 in
theorem gX3_worst_X3_isShift : GoodIn wsX3_worst (va_wsS RX3 155 yX3_isShift wsX3_isShift) := goodIn_app (goodIn_of _ (by decide +kernel)) ggX3_worst_X3_isShift
set_option maxRecDepth 20000 in
theorem ggX3_worst_X3_worstOfShifts : GoodIn wsX3_worst wsX3_worstOfShifts := goodIn_r _ [20, 21, 12, 22, 23, 24, 25, 26, 27, 28, 29, 30, 31, 32, 33, 34, 35, 36, 37, 38, 39, 40, 41, 42, 43, 44, 45, 46, 47, 48, 49, 50, 51, 52, 53, 54, 55, 56, 57, 58, 59, 6, 60, 61, 62, 63, 64, 65, 66, 67, 68, 69, 70, 71, 72, 73, 74] (by decide +kernel) (by decide +kernel)
set_option maxRecDepth 20000 in
theorem gX3_worst_X3_worstOfShifts : GoodIn wsX3_worst (wsV RX3 158 RX3 yX3_worstOfShifts wsX3_worstOfShifts) := goodIn_app (goodIn_of _ (by decide +kernel)) ggX3_worst_X3_worstOfShifts
theorem dX3_worst_0 : decode cX3_worst 0 = .ok (.aload_n 0, 1) := by decide +kernel
theorem dX3_worst_1 : decode cX3_worst 1 = .ok (.iload_n 1, 1) := by decide +kernel
theorem dX3_worst_2 : decode cX3_worst 2 = .ok (.iload_n 2, 1) := by decide +kernel
theorem dX3_worst_3 : decode cX3_worst 3 = .ok (.invokevirtual 148, 3) := by decide +kernel
theorem dX3_worst_6 : decode cX3_worst 6 = .ok (.ifCond .ne 6, 3) := by decide +kernel
theorem dX3_worst_9 : decode cX3_worst 9 = .ok (.ldc 83, 2) := by decide +kernel
theorem dX3_worst_11 : decode cX3_worst 11 = .ok (.ireturn, 1) := by decide +kernel
theorem dX3_worst_12 : decode cX3_worst 12 = .ok (.iload_n 3, 1) := by decide +kernel
theorem dX3_worst_13 : decode cX3_worst 13 = .ok (.invokestatic 155, 3) := by decide +kernel
theorem dX3_worst_16 : decode cX3_worst 16 = .ok (.ifCond .eq 13, 3) := by decide +kernel
theorem dX3_worst_19 : decode cX3_worst 19 = .ok (.aload_n 0, 1) := by decide +kernel
theorem dX3_worst_20 : decode cX3_worst 20 = .ok (.iload_n 1, 1) := by decide +kernel
theorem dX3_worst_21 : decode cX3_worst 21 = .ok (.iload_n 2, 1) := by decide +kernel
theorem dX3_worst_22 : decode cX3_worst 22 = .ok (.iload_n 3, 1) := by decide +kernel
theorem dX3_worst_23 : decode cX3_worst 23 = .ok (.invokevirtual 158, 3) := by decide +kernel
theorem dX3_worst_26 : decode cX3_worst 26 = .ok (.goto 5, 3) := by decide +kernel
theorem dX3_worst_29 : decode cX3_worst 29 = .ok (.ldc 48, 2) := by decide +kernel
theorem dX3_worst_31 : decode cX3_worst 31 = .ok (.ireturn, 1) := by decide +kernel
set_option maxRecDepth 20000 in
theorem ggX3_bound_X3_areTwoUsers : GoodIn wsX3_bound wsX3_areTwoUsers := goodIn_r _ [7, 8, 9, 10, 6, 11, 12, 13, 61, 62, 63, 64, 65, 66, 67, 68, 69, 70, 71, 72, 73, 74] (by decide +kernel) (by decide +kernel)
set_option maxRecDepth 20000 in
theorem gX3_bound_X3_areTwoUsers : GoodIn wsX3_bound (wsV RX3 148 RX3 yX3_areTwoUsers wsX3_areTwoUsers) := goodIn_app (goodIn_of _ (by decide +kernel)) ggX3_bound_X3_areTwoUsers
set_option maxRecDepth 20000 in
theorem ggX3_bound_X3_isShift : GoodIn wsX3_bound wsX3_isShift := goodIn_r _ [16] (by decide +kernel) (by decide +kernel)
set_option maxRecDepth 20000 in
theorem gX3_bound_X3_isShift : GoodIn wsX3_bound (va_wsS RX3 155 yX3_isShift wsX3_isShift) := goodIn_app (goodIn_of _ (by decide +kernel)) ggX3_bound_X3_isShift
set_option maxRecDepth 20000 in
theorem ggX3_bound_X3_worstOfShifts : GoodIn wsX3_bound wsX3_worstOfShifts := goodIn_r _ [20, 21, 12, 22, 23, 24, 25, 26, 27, 28, 29, 30, 31, 32, 33, 34, 35, 36, 37, 38, 39, 40, 41, 42, 43, 44, 45, 46, 47, 48, 49, 50, 51, 52, 53, 54, 55, 56, 57, 58, 59, 6, 60, 61, 62, 63, 64, 65, 66, 67, 68, 69, 70, 71, 72, 73, 74] (by decide +kernel) (by decide +kernel)
set_option maxRecDepth 20000 in
theorem gX3_bound_X3_worstOfShifts : GoodIn wsX3_bound (wsV RX3 158 RX3 yX3_worstOfShifts wsX3_worstOfShifts) := goodIn_app (goodIn_of _ (by decide +kernel)) ggX3_bound_X3_worstOfShifts
theorem dX3_bound_0 : decode cX3_bound 0 = .ok (.aload_n 0, 1) := by decide +kernel
theorem dX3_bound_1 : decode cX3_bound 1 = .ok (.iload_n 1, 1) := by decide +kernel
theorem dX3_bound_2 : decode cX3_bound 2 = .ok (.iload_n 2, 1) := by decide +kernel
theorem dX3_bound_3 : decode cX3_bound 3 = .ok (.invokevirtual 148, 3) := by decide +kernel
theorem dX3_bound_6 : decode cX3_bound 6 = .ok (.ifCond .ne 6, 3) := by decide +kernel
theorem dX3_bound_9 : decode cX3_bound 9 = .ok (.ldc 83, 2) := by decide +kernel
theorem dX3_bound_11 : decode cX3_bound 11 = .ok (.ireturn, 1) := by decide +kernel
theorem dX3_bound_12 : decode cX3_bound 12 = .ok (.iload_n 3, 1) := by decide +kernel
theorem dX3_bound_13 : decode cX3_bound 13 = .ok (.invokestatic 155, 3) := by decide +kernel
theorem dX3_bound_16 : decode cX3_bound 16 = .ok (.ifCond .eq 16, 3) := by decide +kernel
theorem dX3_bound_19 : decode cX3_bound 19 = .ok (.iload 4, 2) := by decide +kernel
theorem dX3_bound_21 : decode cX3_bound 21 = .ok (.ifCond .lt 11, 3) := by decide +kernel
theorem dX3_bound_24 : decode cX3_bound 24 = .ok (.iload 4, 2) := by decide +kernel
theorem dX3_bound_26 : decode cX3_bound 26 = .ok (.sipush 1500, 3) := by decide +kernel
theorem dX3_bound_29 : decode cX3_bound 29 = .ok (.if_icmp .le 6, 3) := by decide +kernel
theorem dX3_bound_32 : decode cX3_bound 32 = .ok (.ldc 48, 2) := by decide +kernel
theorem dX3_bound_34 : decode cX3_bound 34 = .ok (.ireturn, 1) := by decide +kernel
theorem dX3_bound_35 : decode cX3_bound 35 = .ok (.aload_n 0, 1) := by decide +kernel
theorem dX3_bound_36 : decode cX3_bound 36 = .ok (.iload_n 1, 1) := by decide +kernel
theorem dX3_bound_37 : decode cX3_bound 37 = .ok (.iload_n 2, 1) := by decide +kernel
theorem dX3_bound_38 : decode cX3_bound 38 = .ok (.iload_n 3, 1) := by decide +kernel
theorem dX3_bound_39 : decode cX3_bound 39 = .ok (.invokevirtual 158, 3) := by decide +kernel
theorem dX3_bound_42 : decode cX3_bound 42 = .ok (.iload 4, 2) := by decide +kernel
theorem dX3_bound_44 : decode cX3_bound 44 = .ok (.if_icmp .gt 7, 3) := by decide +kernel
theorem dX3_bound_47 : decode cX3_bound 47 = .ok (.iconst 1, 1) := by decide +kernel
theorem dX3_bound_48 : decode cX3_bound 48 = .ok (.goto 4, 3) := by decide +kernel
theorem dX3_bound_51 : decode cX3_bound 51 = .ok (.iconst 0, 1) := by decide +kernel
theorem dX3_bound_52 : decode cX3_bound 52 = .ok (.ireturn, 1) := by decide +kernel
set_option maxRecDepth 20000 in
theorem ggX3_together_X3_areTwoUsers : GoodIn wsX3_together wsX3_areTwoUsers := goodIn_r _ [8, 9, 10, 11, 7, 12, 3, 13, 61, 62, 63, 64, 65, 66, 67, 68, 69, 70, 71, 72, 73, 74] (by decide +kernel) (by decide +kernel)
set_option maxRecDepth 20000 in
theorem gX3_together_X3_areTwoUsers : GoodIn wsX3_together (wsV RX3 148 RX3 yX3_areTwoUsers wsX3_areTwoUsers) := goodIn_app (goodIn_of _ (by decide +kernel)) ggX3_together_X3_areTwoUsers
set_option maxRecDepth 20000 in
theorem ggX3_together_X2_meet : GoodIn wsX3_together wsX2_meet := goodIn_r _ [18, 19, 20, 21, 17, 22, 23, 24, 25, 26, 27, 28, 29, 30, 31, 32, 33, 34, 35, 36, 37, 38, 39, 40, 41, 42, 43, 44, 45, 46, 47, 48, 49, 50, 51, 52, 53, 54, 55, 56, 57, 58, 59, 60, 69, 70, 71, 72, 73, 74] (by decide +kernel) (by decide +kernel)
set_option maxRecDepth 20000 in
theorem gX3_together_X2_meet : GoodIn wsX3_together (wsV RX3 151 RX2 yX2_meet wsX2_meet) := goodIn_app (goodIn_of _ (by decide +kernel)) ggX3_together_X2_meet
theorem dX3_together_0 : decode cX3_together 0 = .ok (.aload_n 0, 1) := by decide +kernel
theorem dX3_together_1 : decode cX3_together 1 = .ok (.iload_n 1, 1) := by decide +kernel
theorem dX3_together_2 : decode cX3_together 2 = .ok (.iload_n 2, 1) := by decide +kernel
theorem dX3_together_3 : decode cX3_together 3 = .ok (.invokevirtual 148, 3) := by decide +kernel
theorem dX3_together_6 : decode cX3_together 6 = .ok (.ifCond .ne 6, 3) := by decide +kernel
theorem dX3_together_9 : decode cX3_together 9 = .ok (.ldc 83, 2) := by decide +kernel
theorem dX3_together_11 : decode cX3_together 11 = .ok (.ireturn, 1) := by decide +kernel
theorem dX3_together_12 : decode cX3_together 12 = .ok (.iload_n 3, 1) := by decide +kernel
theorem dX3_together_13 : decode cX3_together 13 = .ok (.ifCond .lt 10, 3) := by decide +kernel
theorem dX3_together_16 : decode cX3_together 16 = .ok (.iload_n 3, 1) := by decide +kernel
theorem dX3_together_17 : decode cX3_together 17 = .ok (.sipush 1500, 3) := by decide +kernel
theorem dX3_together_20 : decode cX3_together 20 = .ok (.if_icmp .le 6, 3) := by decide +kernel
theorem dX3_together_23 : decode cX3_together 23 = .ok (.ldc 48, 2) := by decide +kernel
theorem dX3_together_25 : decode cX3_together 25 = .ok (.ireturn, 1) := by decide +kernel
theorem dX3_together_26 : decode cX3_together 26 = .ok (.iconst 0, 1) := by decide +kernel
theorem dX3_together_27 : decode cX3_together 27 = .ok (.istore 4, 2) := by decide +kernel
theorem dX3_together_29 : decode cX3_together 29 = .ok (.iconst 0, 1) := by decide +kernel
theorem dX3_together_30 : decode cX3_together 30 = .ok (.istore 5, 2) := by decide +kernel
theorem dX3_together_32 : decode cX3_together 32 = .ok (.iload 5, 2) := by decide +kernel
theorem dX3_together_34 : decode cX3_together 34 = .ok (.iload_n 3, 1) := by decide +kernel
theorem dX3_together_35 : decode cX3_together 35 = .ok (.if_icmp .ge 26, 3) := by decide +kernel
theorem dX3_together_38 : decode cX3_together 38 = .ok (.aload_n 0, 1) := by decide +kernel
theorem dX3_together_39 : decode cX3_together 39 = .ok (.getfield 10, 3) := by decide +kernel
theorem dX3_together_42 : decode cX3_together 42 = .ok (.iload_n 1, 1) := by decide +kernel
theorem dX3_together_43 : decode cX3_together 43 = .ok (.iload_n 2, 1) := by decide +kernel
theorem dX3_together_44 : decode cX3_together 44 = .ok (.iload 5, 2) := by decide +kernel
theorem dX3_together_46 : decode cX3_together 46 = .ok (.invokevirtual 151, 3) := by decide +kernel
theorem dX3_together_49 : decode cX3_together 49 = .ok (.ifCond .eq 6, 3) := by decide +kernel
theorem dX3_together_52 : decode cX3_together 52 = .ok (.iinc 4 1, 3) := by decide +kernel
theorem dX3_together_55 : decode cX3_together 55 = .ok (.iinc 5 1, 3) := by decide +kernel
theorem dX3_together_58 : decode cX3_together 58 = .ok (.goto (-26), 3) := by decide +kernel
theorem dX3_together_61 : decode cX3_together 61 = .ok (.iload 4, 2) := by decide +kernel
theorem dX3_together_63 : decode cX3_together 63 = .ok (.ireturn, 1) := by decide +kernel
set_option maxRecDepth 20000 in
theorem ggX3_even_X3_isUser : GoodIn wsX3_even wsX3_isUser := goodIn_r _ [18, 3, 19, 54, 55, 56, 57, 58, 59, 60, 61, 62, 63, 64, 65, 66, 67] (by decide +kernel) (by decide +kernel)
set_option maxRecDepth 20000 in
theorem gX3_even_X3_isUser : GoodIn wsX3_even (wsV RX3 79 RX3 yX3_isUser wsX3_isUser) := goodIn_app (goodIn_of _ (by decide +kernel)) ggX3_even_X3_isUser
set_option maxRecDepth 20000 in
theorem ggX3_even_X3_countTimesOn : GoodIn wsX3_even wsX3_countTimesOn := goodIn_r _ [23, 6, 3, 24, 25, 26, 27, 28, 29, 30, 31, 32, 33, 34, 35, 36, 37, 38, 39, 40, 41, 42, 43, 44, 45, 46, 47, 48, 49, 50, 51, 52, 54, 55, 56, 57, 58, 59, 60, 61, 62, 63, 64, 65, 66, 67] (by decide +kernel) (by decide +kernel)
set_option maxRecDepth 20000 in
theorem gX3_even_X3_countTimesOn : GoodIn wsX3_even (wsV RX3 161 RX3 yX3_countTimesOn wsX3_countTimesOn) := goodIn_app (goodIn_of _ (by decide +kernel)) ggX3_even_X3_countTimesOn
set_option maxRecDepth 20000 in
theorem ggX3_even_X2_holds : GoodIn wsX3_even wsX2_holds := goodIn_r _ [42] (by decide +kernel) (by decide +kernel)
set_option maxRecDepth 20000 in
theorem gX3_even_X2_holds : GoodIn wsX3_even (va_wsS RX3 165 yX2_holds wsX2_holds) := goodIn_app (goodIn_of _ (by decide +kernel)) ggX3_even_X2_holds
theorem dX3_even_0 : decode cX3_even 0 = .ok (.aload_n 0, 1) := by decide +kernel
theorem dX3_even_1 : decode cX3_even 1 = .ok (.iload_n 1, 1) := by decide +kernel
theorem dX3_even_2 : decode cX3_even 2 = .ok (.invokevirtual 79, 3) := by decide +kernel
theorem dX3_even_5 : decode cX3_even 5 = .ok (.ifCond .ne 6, 3) := by decide +kernel
theorem dX3_even_8 : decode cX3_even 8 = .ok (.ldc 83, 2) := by decide +kernel
theorem dX3_even_10 : decode cX3_even 10 = .ok (.ireturn, 1) := by decide +kernel
theorem dX3_even_11 : decode cX3_even 11 = .ok (.iload_n 2, 1) := by decide +kernel
theorem dX3_even_12 : decode cX3_even 12 = .ok (.iconst 1, 1) := by decide +kernel
theorem dX3_even_13 : decode cX3_even 13 = .ok (.if_icmp .lt 10, 3) := by decide +kernel
theorem dX3_even_16 : decode cX3_even 16 = .ok (.iload_n 2, 1) := by decide +kernel
theorem dX3_even_17 : decode cX3_even 17 = .ok (.sipush 1500, 3) := by decide +kernel
theorem dX3_even_20 : decode cX3_even 20 = .ok (.if_icmp .le 6, 3) := by decide +kernel
theorem dX3_even_23 : decode cX3_even 23 = .ok (.ldc 48, 2) := by decide +kernel
theorem dX3_even_25 : decode cX3_even 25 = .ok (.ireturn, 1) := by decide +kernel
theorem dX3_even_26 : decode cX3_even 26 = .ok (.aload_n 0, 1) := by decide +kernel
theorem dX3_even_27 : decode cX3_even 27 = .ok (.getfield 10, 3) := by decide +kernel
theorem dX3_even_30 : decode cX3_even 30 = .ok (.getfield 128, 3) := by decide +kernel
theorem dX3_even_33 : decode cX3_even 33 = .ok (.iload_n 1, 1) := by decide +kernel
theorem dX3_even_34 : decode cX3_even 34 = .ok (.aaload, 1) := by decide +kernel
theorem dX3_even_35 : decode cX3_even 35 = .ok (.iconst 4, 1) := by decide +kernel
theorem dX3_even_36 : decode cX3_even 36 = .ok (.iaload, 1) := by decide +kernel
theorem dX3_even_37 : decode cX3_even 37 = .ok (.istore_n 3, 1) := by decide +kernel
theorem dX3_even_38 : decode cX3_even 38 = .ok (.iload_n 3, 1) := by decide +kernel
theorem dX3_even_39 : decode cX3_even 39 = .ok (.ifCond .ne 5, 3) := by decide +kernel
theorem dX3_even_42 : decode cX3_even 42 = .ok (.iconst 0, 1) := by decide +kernel
theorem dX3_even_43 : decode cX3_even 43 = .ok (.ireturn, 1) := by decide +kernel
theorem dX3_even_44 : decode cX3_even 44 = .ok (.aload_n 0, 1) := by decide +kernel
theorem dX3_even_45 : decode cX3_even 45 = .ok (.iload_n 1, 1) := by decide +kernel
theorem dX3_even_46 : decode cX3_even 46 = .ok (.iload_n 2, 1) := by decide +kernel
theorem dX3_even_47 : decode cX3_even 47 = .ok (.invokevirtual 161, 3) := by decide +kernel
theorem dX3_even_50 : decode cX3_even 50 = .ok (.iconst 0, 1) := by decide +kernel
theorem dX3_even_51 : decode cX3_even 51 = .ok (.istore 4, 2) := by decide +kernel
theorem dX3_even_53 : decode cX3_even 53 = .ok (.iload_n 2, 1) := by decide +kernel
theorem dX3_even_54 : decode cX3_even 54 = .ok (.istore 5, 2) := by decide +kernel
theorem dX3_even_56 : decode cX3_even 56 = .ok (.iconst 0, 1) := by decide +kernel
theorem dX3_even_57 : decode cX3_even 57 = .ok (.istore 6, 2) := by decide +kernel
theorem dX3_even_59 : decode cX3_even 59 = .ok (.iload 6, 2) := by decide +kernel
theorem dX3_even_61 : decode cX3_even 61 = .ok (.aload_n 0, 1) := by decide +kernel
theorem dX3_even_62 : decode cX3_even 62 = .ok (.getfield 10, 3) := by decide +kernel
theorem dX3_even_65 : decode cX3_even 65 = .ok (.getfield 92, 3) := by decide +kernel
theorem dX3_even_68 : decode cX3_even 68 = .ok (.if_icmp .ge 46, 3) := by decide +kernel
theorem dX3_even_71 : decode cX3_even 71 = .ok (.iload_n 3, 1) := by decide +kernel
theorem dX3_even_72 : decode cX3_even 72 = .ok (.iload 6, 2) := by decide +kernel
theorem dX3_even_74 : decode cX3_even 74 = .ok (.invokestatic 165, 3) := by decide +kernel
theorem dX3_even_77 : decode cX3_even 77 = .ok (.ifCond .eq 31, 3) := by decide +kernel
theorem dX3_even_80 : decode cX3_even 80 = .ok (.iload 4, 2) := by decide +kernel
theorem dX3_even_82 : decode cX3_even 82 = .ok (.aload_n 0, 1) := by decide +kernel
theorem dX3_even_83 : decode cX3_even 83 = .ok (.getfield 45, 3) := by decide +kernel
theorem dX3_even_86 : decode cX3_even 86 = .ok (.iload 6, 2) := by decide +kernel
theorem dX3_even_88 : decode cX3_even 88 = .ok (.iaload, 1) := by decide +kernel
theorem dX3_even_89 : decode cX3_even 89 = .ok (.invokestatic 168, 3) := by decide +kernel
theorem dX3_even_92 : decode cX3_even 92 = .ok (.istore 4, 2) := by decide +kernel
theorem dX3_even_94 : decode cX3_even 94 = .ok (.iload 5, 2) := by decide +kernel
theorem dX3_even_96 : decode cX3_even 96 = .ok (.aload_n 0, 1) := by decide +kernel
theorem dX3_even_97 : decode cX3_even 97 = .ok (.getfield 45, 3) := by decide +kernel
theorem dX3_even_100 : decode cX3_even 100 = .ok (.iload 6, 2) := by decide +kernel
theorem dX3_even_102 : decode cX3_even 102 = .ok (.iaload, 1) := by decide +kernel
theorem dX3_even_103 : decode cX3_even 103 = .ok (.invokestatic 173, 3) := by decide +kernel
theorem dX3_even_106 : decode cX3_even 106 = .ok (.istore 5, 2) := by decide +kernel
theorem dX3_even_108 : decode cX3_even 108 = .ok (.iinc 6 1, 3) := by decide +kernel
theorem dX3_even_111 : decode cX3_even 111 = .ok (.goto (-52), 3) := by decide +kernel
theorem dX3_even_114 : decode cX3_even 114 = .ok (.iload 4, 2) := by decide +kernel
theorem dX3_even_116 : decode cX3_even 116 = .ok (.iload 5, 2) := by decide +kernel
theorem dX3_even_118 : decode cX3_even 118 = .ok (.isub, 1) := by decide +kernel
theorem dX3_even_119 : decode cX3_even 119 = .ok (.ireturn, 1) := by decide +kernel
set_option maxRecDepth 20000 in
theorem ggX3_run_X0_runSlot : GoodIn wsX3_run wsX0_runSlot := goodIn_r _ [12, 13, 14, 15, 16, 17, 18, 19, 20, 21, 22, 23, 24, 25, 26, 27, 28, 29, 30, 31, 32, 33, 34, 35, 36, 37, 38, 39, 40, 41, 42, 43, 44, 45, 46, 47, 48, 49, 50, 51, 52, 53, 54, 55, 56, 57, 58, 59, 60, 61, 62, 11, 63, 64, 65, 66, 67, 86, 87, 88, 89, 80, 81, 82, 83, 84, 85] (by decide +kernel) (by decide +kernel)
set_option maxRecDepth 20000 in
theorem gX3_run_X0_runSlot : GoodIn wsX3_run (wsV RX3 176 RX0 yX0_runSlot wsX0_runSlot) := goodIn_app (goodIn_of _ (by decide +kernel)) ggX3_run_X0_runSlot
set_option maxRecDepth 20000 in
theorem ggX3_run_X0_howMany : GoodIn wsX3_run wsX0_howMany := goodIn_r _ [71, 14, 15, 86, 87, 88, 89] (by decide +kernel) (by decide +kernel)
set_option maxRecDepth 20000 in
theorem gX3_run_X0_howMany : GoodIn wsX3_run (wsV RX3 118 RX0 yX0_howMany wsX0_howMany) := goodIn_app (goodIn_of _ (by decide +kernel)) ggX3_run_X0_howMany
theorem dX3_run_0 : decode cX3_run 0 = .ok (.iload_n 1, 1) := by decide +kernel
theorem dX3_run_1 : decode cX3_run 1 = .ok (.iconst 1, 1) := by decide +kernel
theorem dX3_run_2 : decode cX3_run 2 = .ok (.if_icmp .lt 10, 3) := by decide +kernel
theorem dX3_run_5 : decode cX3_run 5 = .ok (.iload_n 1, 1) := by decide +kernel
theorem dX3_run_6 : decode cX3_run 6 = .ok (.sipush 200, 3) := by decide +kernel
theorem dX3_run_9 : decode cX3_run 9 = .ok (.if_icmp .le 6, 3) := by decide +kernel
theorem dX3_run_12 : decode cX3_run 12 = .ok (.ldc 48, 2) := by decide +kernel
theorem dX3_run_14 : decode cX3_run 14 = .ok (.ireturn, 1) := by decide +kernel
theorem dX3_run_15 : decode cX3_run 15 = .ok (.aload_n 0, 1) := by decide +kernel
theorem dX3_run_16 : decode cX3_run 16 = .ok (.getfield 10, 3) := by decide +kernel
theorem dX3_run_19 : decode cX3_run 19 = .ok (.getfield 67, 3) := by decide +kernel
theorem dX3_run_22 : decode cX3_run 22 = .ok (.ifCond .ne 6, 3) := by decide +kernel
theorem dX3_run_25 : decode cX3_run 25 = .ok (.ldc 102, 2) := by decide +kernel
theorem dX3_run_27 : decode cX3_run 27 = .ok (.ireturn, 1) := by decide +kernel
theorem dX3_run_28 : decode cX3_run 28 = .ok (.aload_n 0, 1) := by decide +kernel
theorem dX3_run_29 : decode cX3_run 29 = .ok (.getfield 34, 3) := by decide +kernel
theorem dX3_run_32 : decode cX3_run 32 = .ok (.getfield 115, 3) := by decide +kernel
theorem dX3_run_35 : decode cX3_run 35 = .ok (.sipush 3000, 3) := by decide +kernel
theorem dX3_run_38 : decode cX3_run 38 = .ok (.if_icmp .lt 6, 3) := by decide +kernel
theorem dX3_run_41 : decode cX3_run 41 = .ok (.ldc 70, 2) := by decide +kernel
theorem dX3_run_43 : decode cX3_run 43 = .ok (.ireturn, 1) := by decide +kernel
theorem dX3_run_44 : decode cX3_run 44 = .ok (.iconst 0, 1) := by decide +kernel
theorem dX3_run_45 : decode cX3_run 45 = .ok (.istore_n 2, 1) := by decide +kernel
theorem dX3_run_46 : decode cX3_run 46 = .ok (.iload_n 2, 1) := by decide +kernel
theorem dX3_run_47 : decode cX3_run 47 = .ok (.iload_n 1, 1) := by decide +kernel
theorem dX3_run_48 : decode cX3_run 48 = .ok (.if_icmp .ge 33, 3) := by decide +kernel
theorem dX3_run_51 : decode cX3_run 51 = .ok (.aload_n 0, 1) := by decide +kernel
theorem dX3_run_52 : decode cX3_run 52 = .ok (.getfield 34, 3) := by decide +kernel
theorem dX3_run_55 : decode cX3_run 55 = .ok (.getfield 115, 3) := by decide +kernel
theorem dX3_run_58 : decode cX3_run 58 = .ok (.sipush 3000, 3) := by decide +kernel
theorem dX3_run_61 : decode cX3_run 61 = .ok (.if_icmp .ge 20, 3) := by decide +kernel
theorem dX3_run_64 : decode cX3_run 64 = .ok (.aload_n 0, 1) := by decide +kernel
theorem dX3_run_65 : decode cX3_run 65 = .ok (.getfield 34, 3) := by decide +kernel
theorem dX3_run_68 : decode cX3_run 68 = .ok (.aload_n 0, 1) := by decide +kernel
theorem dX3_run_69 : decode cX3_run 69 = .ok (.getfield 10, 3) := by decide +kernel
theorem dX3_run_72 : decode cX3_run 72 = .ok (.invokevirtual 176, 3) := by decide +kernel
theorem dX3_run_75 : decode cX3_run 75 = .ok (.iinc 2 1, 3) := by decide +kernel
theorem dX3_run_78 : decode cX3_run 78 = .ok (.goto (-32), 3) := by decide +kernel
theorem dX3_run_81 : decode cX3_run 81 = .ok (.aload_n 0, 1) := by decide +kernel
theorem dX3_run_82 : decode cX3_run 82 = .ok (.getfield 34, 3) := by decide +kernel
theorem dX3_run_85 : decode cX3_run 85 = .ok (.invokevirtual 118, 3) := by decide +kernel
theorem dX3_run_88 : decode cX3_run 88 = .ok (.ireturn, 1) := by decide +kernel
set_option maxRecDepth 20000 in
theorem ggX3_merge_X0_howMany : GoodIn wsX3_merge wsX0_howMany := goodIn_r _ [10, 11, 12, 84, 85, 86, 87] (by decide +kernel) (by decide +kernel)
set_option maxRecDepth 20000 in
theorem gX3_merge_X0_howMany : GoodIn wsX3_merge (wsV RX3 118 RX0 yX0_howMany wsX0_howMany) := goodIn_app (goodIn_of _ (by decide +kernel)) ggX3_merge_X0_howMany
set_option maxRecDepth 20000 in
theorem ggX3_merge_X0_runSlot : GoodIn wsX3_merge wsX0_runSlot := goodIn_r _ [16, 17, 11, 12, 18, 19, 20, 21, 22, 23, 24, 25, 26, 27, 28, 29, 30, 31, 32, 33, 34, 35, 36, 37, 38, 39, 40, 41, 42, 43, 44, 45, 46, 47, 48, 49, 50, 51, 52, 53, 54, 55, 56, 57, 58, 59, 60, 61, 62, 63, 64, 9, 65, 66, 67, 68, 69, 84, 85, 86, 87, 78, 79, 80, 81, 82, 83] (by decide +kernel) (by decide +kernel)
set_option maxRecDepth 20000 in
theorem gX3_merge_X0_runSlot : GoodIn wsX3_merge (wsV RX3 176 RX0 yX0_runSlot wsX0_runSlot) := goodIn_app (goodIn_of _ (by decide +kernel)) ggX3_merge_X0_runSlot
theorem dX3_merge_0 : decode cX3_merge 0 = .ok (.aload_n 0, 1) := by decide +kernel
theorem dX3_merge_1 : decode cX3_merge 1 = .ok (.getfield 10, 3) := by decide +kernel
theorem dX3_merge_4 : decode cX3_merge 4 = .ok (.getfield 67, 3) := by decide +kernel
theorem dX3_merge_7 : decode cX3_merge 7 = .ok (.ifCond .ne 6, 3) := by decide +kernel
theorem dX3_merge_10 : decode cX3_merge 10 = .ok (.ldc 102, 2) := by decide +kernel
theorem dX3_merge_12 : decode cX3_merge 12 = .ok (.ireturn, 1) := by decide +kernel
theorem dX3_merge_13 : decode cX3_merge 13 = .ok (.iconst 0, 1) := by decide +kernel
theorem dX3_merge_14 : decode cX3_merge 14 = .ok (.istore_n 1, 1) := by decide +kernel
theorem dX3_merge_15 : decode cX3_merge 15 = .ok (.iload_n 1, 1) := by decide +kernel
theorem dX3_merge_16 : decode cX3_merge 16 = .ok (.sipush 1500, 3) := by decide +kernel
theorem dX3_merge_19 : decode cX3_merge 19 = .ok (.if_icmp .ge 44, 3) := by decide +kernel
theorem dX3_merge_22 : decode cX3_merge 22 = .ok (.aload_n 0, 1) := by decide +kernel
theorem dX3_merge_23 : decode cX3_merge 23 = .ok (.getfield 34, 3) := by decide +kernel
theorem dX3_merge_26 : decode cX3_merge 26 = .ok (.getfield 115, 3) := by decide +kernel
theorem dX3_merge_29 : decode cX3_merge 29 = .ok (.sipush 3000, 3) := by decide +kernel
theorem dX3_merge_32 : decode cX3_merge 32 = .ok (.if_icmp .ge 31, 3) := by decide +kernel
theorem dX3_merge_35 : decode cX3_merge 35 = .ok (.aload_n 0, 1) := by decide +kernel
theorem dX3_merge_36 : decode cX3_merge 36 = .ok (.getfield 34, 3) := by decide +kernel
theorem dX3_merge_39 : decode cX3_merge 39 = .ok (.invokevirtual 118, 3) := by decide +kernel
theorem dX3_merge_42 : decode cX3_merge 42 = .ok (.iconst 1, 1) := by decide +kernel
theorem dX3_merge_43 : decode cX3_merge 43 = .ok (.if_icmp .le 20, 3) := by decide +kernel
theorem dX3_merge_46 : decode cX3_merge 46 = .ok (.aload_n 0, 1) := by decide +kernel
theorem dX3_merge_47 : decode cX3_merge 47 = .ok (.getfield 34, 3) := by decide +kernel
theorem dX3_merge_50 : decode cX3_merge 50 = .ok (.aload_n 0, 1) := by decide +kernel
theorem dX3_merge_51 : decode cX3_merge 51 = .ok (.getfield 10, 3) := by decide +kernel
theorem dX3_merge_54 : decode cX3_merge 54 = .ok (.invokevirtual 176, 3) := by decide +kernel
theorem dX3_merge_57 : decode cX3_merge 57 = .ok (.iinc 1 1, 3) := by decide +kernel
theorem dX3_merge_60 : decode cX3_merge 60 = .ok (.goto (-45), 3) := by decide +kernel
theorem dX3_merge_63 : decode cX3_merge 63 = .ok (.aload_n 0, 1) := by decide +kernel
theorem dX3_merge_64 : decode cX3_merge 64 = .ok (.getfield 34, 3) := by decide +kernel
theorem dX3_merge_67 : decode cX3_merge 67 = .ok (.getfield 115, 3) := by decide +kernel
theorem dX3_merge_70 : decode cX3_merge 70 = .ok (.ireturn, 1) := by decide +kernel
set_option maxRecDepth 20000 in
theorem ggX3_part_X0_begin : GoodIn wsX3_part wsX0_begin := goodIn_r _ [9, 10, 11, 12, 21, 22, 23, 24] (by decide +kernel) (by decide +kernel)
set_option maxRecDepth 20000 in
theorem gX3_part_X0_begin : GoodIn wsX3_part (wsV RX3 56 RX0 yX0_begin wsX0_begin) := goodIn_app (goodIn_of _ (by decide +kernel)) ggX3_part_X0_begin
theorem dX3_part_0 : decode cX3_part 0 = .ok (.aload_n 0, 1) := by decide +kernel
theorem dX3_part_1 : decode cX3_part 1 = .ok (.getfield 34, 3) := by decide +kernel
theorem dX3_part_4 : decode cX3_part 4 = .ok (.getfield 115, 3) := by decide +kernel
theorem dX3_part_7 : decode cX3_part 7 = .ok (.istore_n 1, 1) := by decide +kernel
theorem dX3_part_8 : decode cX3_part 8 = .ok (.aload_n 0, 1) := by decide +kernel
theorem dX3_part_9 : decode cX3_part 9 = .ok (.getfield 34, 3) := by decide +kernel
theorem dX3_part_12 : decode cX3_part 12 = .ok (.aload_n 0, 1) := by decide +kernel
theorem dX3_part_13 : decode cX3_part 13 = .ok (.getfield 10, 3) := by decide +kernel
theorem dX3_part_16 : decode cX3_part 16 = .ok (.getfield 67, 3) := by decide +kernel
theorem dX3_part_19 : decode cX3_part 19 = .ok (.invokevirtual 56, 3) := by decide +kernel
theorem dX3_part_22 : decode cX3_part 22 = .ok (.iload_n 1, 1) := by decide +kernel
theorem dX3_part_23 : decode cX3_part 23 = .ok (.ireturn, 1) := by decide +kernel
set_option maxRecDepth 20000 in
theorem ggX3_keep_X3_isImage : GoodIn wsX3_keep wsX3_isImage := goodIn_r _ [9] (by decide +kernel) (by decide +kernel)
set_option maxRecDepth 20000 in
theorem gX3_keep_X3_isImage : GoodIn wsX3_keep (va_wsS RX3 179 yX3_isImage wsX3_isImage) := goodIn_app (goodIn_of _ (by decide +kernel)) ggX3_keep_X3_isImage
set_option maxRecDepth 20000 in
theorem ggX3_keep_X2_become : GoodIn wsX3_keep wsX2_become := goodIn_r _ [14, 15, 16, 17, 18, 19, 20, 21, 22, 23, 24, 33, 34, 35, 36, 37, 38] (by decide +kernel) (by decide +kernel)
set_option maxRecDepth 20000 in
theorem gX3_keep_X2_become : GoodIn wsX3_keep (wsV RX3 182 RX2 yX2_become wsX2_become) := goodIn_app (goodIn_of _ (by decide +kernel)) ggX3_keep_X2_become
theorem dX3_keep_0 : decode cX3_keep 0 = .ok (.iload_n 1, 1) := by decide +kernel
theorem dX3_keep_1 : decode cX3_keep 1 = .ok (.invokestatic 179, 3) := by decide +kernel
theorem dX3_keep_4 : decode cX3_keep 4 = .ok (.ifCond .ne 6, 3) := by decide +kernel
theorem dX3_keep_7 : decode cX3_keep 7 = .ok (.ldc 83, 2) := by decide +kernel
theorem dX3_keep_9 : decode cX3_keep 9 = .ok (.ireturn, 1) := by decide +kernel
theorem dX3_keep_10 : decode cX3_keep 10 = .ok (.aload_n 0, 1) := by decide +kernel
theorem dX3_keep_11 : decode cX3_keep 11 = .ok (.getfield 23, 3) := by decide +kernel
theorem dX3_keep_14 : decode cX3_keep 14 = .ok (.iload_n 1, 1) := by decide +kernel
theorem dX3_keep_15 : decode cX3_keep 15 = .ok (.aaload, 1) := by decide +kernel
theorem dX3_keep_16 : decode cX3_keep 16 = .ok (.aload_n 0, 1) := by decide +kernel
theorem dX3_keep_17 : decode cX3_keep 17 = .ok (.getfield 10, 3) := by decide +kernel
theorem dX3_keep_20 : decode cX3_keep 20 = .ok (.invokevirtual 182, 3) := by decide +kernel
theorem dX3_keep_23 : decode cX3_keep 23 = .ok (.aload_n 0, 1) := by decide +kernel
theorem dX3_keep_24 : decode cX3_keep 24 = .ok (.getfield 27, 3) := by decide +kernel
theorem dX3_keep_27 : decode cX3_keep 27 = .ok (.iload_n 1, 1) := by decide +kernel
theorem dX3_keep_28 : decode cX3_keep 28 = .ok (.iconst 1, 1) := by decide +kernel
theorem dX3_keep_29 : decode cX3_keep 29 = .ok (.bastore, 1) := by decide +kernel
theorem dX3_keep_30 : decode cX3_keep 30 = .ok (.aload_n 0, 1) := by decide +kernel
theorem dX3_keep_31 : decode cX3_keep 31 = .ok (.getfield 10, 3) := by decide +kernel
theorem dX3_keep_34 : decode cX3_keep 34 = .ok (.getfield 67, 3) := by decide +kernel
theorem dX3_keep_37 : decode cX3_keep 37 = .ok (.ireturn, 1) := by decide +kernel
set_option maxRecDepth 20000 in
theorem ggX3_goBack_X3_isImage : GoodIn wsX3_goBack wsX3_isImage := goodIn_r _ [12] (by decide +kernel) (by decide +kernel)
set_option maxRecDepth 20000 in
theorem gX3_goBack_X3_isImage : GoodIn wsX3_goBack (va_wsS RX3 179 yX3_isImage wsX3_isImage) := goodIn_app (goodIn_of _ (by decide +kernel)) ggX3_goBack_X3_isImage
set_option maxRecDepth 20000 in
theorem ggX3_goBack_X2_become : GoodIn wsX3_goBack wsX2_become := goodIn_r _ [17, 18, 19, 20, 21, 22, 23, 24, 25, 26, 27, 51, 52, 53, 54, 55, 56] (by decide +kernel) (by decide +kernel)
set_option maxRecDepth 20000 in
theorem gX3_goBack_X2_become : GoodIn wsX3_goBack (wsV RX3 182 RX2 yX2_become wsX2_become) := goodIn_app (goodIn_of _ (by decide +kernel)) ggX3_goBack_X2_become
set_option maxRecDepth 20000 in
theorem ggX3_goBack_X1_forget : GoodIn wsX3_goBack wsX1_forget := goodIn_r _ [32, 33, 34, 57, 58, 59] (by decide +kernel) (by decide +kernel)
set_option maxRecDepth 20000 in
theorem gX3_goBack_X1_forget : GoodIn wsX3_goBack (wsV RX3 53 RX1 yX1_forget wsX1_forget) := goodIn_app (goodIn_of _ (by decide +kernel)) ggX3_goBack_X1_forget
set_option maxRecDepth 20000 in
theorem ggX3_goBack_X0_begin : GoodIn wsX3_goBack wsX0_begin := goodIn_r _ [39, 40, 41, 42, 60, 61, 62, 63] (by decide +kernel) (by decide +kernel)
set_option maxRecDepth 20000 in
theorem gX3_goBack_X0_begin : GoodIn wsX3_goBack (wsV RX3 56 RX0 yX0_begin wsX0_begin) := goodIn_app (goodIn_of _ (by decide +kernel)) ggX3_goBack_X0_begin
theorem dX3_goBack_0 : decode cX3_goBack 0 = .ok (.iload_n 1, 1) := by decide +kernel
theorem dX3_goBack_1 : decode cX3_goBack 1 = .ok (.invokestatic 179, 3) := by decide +kernel
theorem dX3_goBack_4 : decode cX3_goBack 4 = .ok (.ifCond .ne 6, 3) := by decide +kernel
theorem dX3_goBack_7 : decode cX3_goBack 7 = .ok (.ldc 83, 2) := by decide +kernel
theorem dX3_goBack_9 : decode cX3_goBack 9 = .ok (.ireturn, 1) := by decide +kernel
theorem dX3_goBack_10 : decode cX3_goBack 10 = .ok (.aload_n 0, 1) := by decide +kernel
theorem dX3_goBack_11 : decode cX3_goBack 11 = .ok (.getfield 27, 3) := by decide +kernel
theorem dX3_goBack_14 : decode cX3_goBack 14 = .ok (.iload_n 1, 1) := by decide +kernel
theorem dX3_goBack_15 : decode cX3_goBack 15 = .ok (.baload, 1) := by decide +kernel
theorem dX3_goBack_16 : decode cX3_goBack 16 = .ok (.ifCond .ne 6, 3) := by decide +kernel
theorem dX3_goBack_19 : decode cX3_goBack 19 = .ok (.ldc 102, 2) := by decide +kernel
theorem dX3_goBack_21 : decode cX3_goBack 21 = .ok (.ireturn, 1) := by decide +kernel
theorem dX3_goBack_22 : decode cX3_goBack 22 = .ok (.aload_n 0, 1) := by decide +kernel
theorem dX3_goBack_23 : decode cX3_goBack 23 = .ok (.getfield 10, 3) := by decide +kernel
theorem dX3_goBack_26 : decode cX3_goBack 26 = .ok (.aload_n 0, 1) := by decide +kernel
theorem dX3_goBack_27 : decode cX3_goBack 27 = .ok (.getfield 23, 3) := by decide +kernel
theorem dX3_goBack_30 : decode cX3_goBack 30 = .ok (.iload_n 1, 1) := by decide +kernel
theorem dX3_goBack_31 : decode cX3_goBack 31 = .ok (.aaload, 1) := by decide +kernel
theorem dX3_goBack_32 : decode cX3_goBack 32 = .ok (.invokevirtual 182, 3) := by decide +kernel
theorem dX3_goBack_35 : decode cX3_goBack 35 = .ok (.aload_n 0, 1) := by decide +kernel
theorem dX3_goBack_36 : decode cX3_goBack 36 = .ok (.getfield 19, 3) := by decide +kernel
theorem dX3_goBack_39 : decode cX3_goBack 39 = .ok (.invokevirtual 53, 3) := by decide +kernel
theorem dX3_goBack_42 : decode cX3_goBack 42 = .ok (.aload_n 0, 1) := by decide +kernel
theorem dX3_goBack_43 : decode cX3_goBack 43 = .ok (.getfield 34, 3) := by decide +kernel
theorem dX3_goBack_46 : decode cX3_goBack 46 = .ok (.aload_n 0, 1) := by decide +kernel
theorem dX3_goBack_47 : decode cX3_goBack 47 = .ok (.getfield 10, 3) := by decide +kernel
theorem dX3_goBack_50 : decode cX3_goBack 50 = .ok (.getfield 67, 3) := by decide +kernel
theorem dX3_goBack_53 : decode cX3_goBack 53 = .ok (.invokevirtual 56, 3) := by decide +kernel
theorem dX3_goBack_56 : decode cX3_goBack 56 = .ok (.aload_n 0, 1) := by decide +kernel
theorem dX3_goBack_57 : decode cX3_goBack 57 = .ok (.getfield 10, 3) := by decide +kernel
theorem dX3_goBack_60 : decode cX3_goBack 60 = .ok (.getfield 67, 3) := by decide +kernel
theorem dX3_goBack_63 : decode cX3_goBack 63 = .ok (.ireturn, 1) := by decide +kernel
theorem dX3_isUser_0 : decode cX3_isUser 0 = .ok (.iload_n 1, 1) := by decide +kernel
theorem dX3_isUser_1 : decode cX3_isUser 1 = .ok (.ifCond .lt 18, 3) := by decide +kernel
theorem dX3_isUser_4 : decode cX3_isUser 4 = .ok (.iload_n 1, 1) := by decide +kernel
theorem dX3_isUser_5 : decode cX3_isUser 5 = .ok (.aload_n 0, 1) := by decide +kernel
theorem dX3_isUser_6 : decode cX3_isUser 6 = .ok (.getfield 10, 3) := by decide +kernel
theorem dX3_isUser_9 : decode cX3_isUser 9 = .ok (.getfield 67, 3) := by decide +kernel
theorem dX3_isUser_12 : decode cX3_isUser 12 = .ok (.if_icmp .ge 7, 3) := by decide +kernel
theorem dX3_isUser_15 : decode cX3_isUser 15 = .ok (.iconst 1, 1) := by decide +kernel
theorem dX3_isUser_16 : decode cX3_isUser 16 = .ok (.goto 4, 3) := by decide +kernel
theorem dX3_isUser_19 : decode cX3_isUser 19 = .ok (.iconst 0, 1) := by decide +kernel
theorem dX3_isUser_20 : decode cX3_isUser 20 = .ok (.ireturn, 1) := by decide +kernel
set_option maxRecDepth 20000 in
theorem ggX3_areTwoUsers_X3_isUser : GoodIn wsX3_areTwoUsers wsX3_isUser := goodIn_r _ [5, 6, 7, 8, 9, 10, 11, 12, 13, 14, 15, 16, 17, 18, 19, 20, 21] (by decide +kernel) (by decide +kernel)
set_option maxRecDepth 20000 in
theorem gX3_areTwoUsers_X3_isUser : GoodIn wsX3_areTwoUsers (wsV RX3 79 RX3 yX3_isUser wsX3_isUser) := goodIn_app (goodIn_of _ (by decide +kernel)) ggX3_areTwoUsers_X3_isUser
theorem dX3_areTwoUsers_0 : decode cX3_areTwoUsers 0 = .ok (.aload_n 0, 1) := by decide +kernel
theorem dX3_areTwoUsers_1 : decode cX3_areTwoUsers 1 = .ok (.iload_n 1, 1) := by decide +kernel
theorem dX3_areTwoUsers_2 : decode cX3_areTwoUsers 2 = .ok (.invokevirtual 79, 3) := by decide +kernel
theorem dX3_areTwoUsers_5 : decode cX3_areTwoUsers 5 = .ok (.ifCond .eq 20, 3) := by decide +kernel
theorem dX3_areTwoUsers_8 : decode cX3_areTwoUsers 8 = .ok (.aload_n 0, 1) := by decide +kernel
theorem dX3_areTwoUsers_9 : decode cX3_areTwoUsers 9 = .ok (.iload_n 2, 1) := by decide +kernel
theorem dX3_areTwoUsers_10 : decode cX3_areTwoUsers 10 = .ok (.invokevirtual 79, 3) := by decide +kernel
theorem dX3_areTwoUsers_13 : decode cX3_areTwoUsers 13 = .ok (.ifCond .eq 12, 3) := by decide +kernel
theorem dX3_areTwoUsers_16 : decode cX3_areTwoUsers 16 = .ok (.iload_n 1, 1) := by decide +kernel
theorem dX3_areTwoUsers_17 : decode cX3_areTwoUsers 17 = .ok (.iload_n 2, 1) := by decide +kernel
theorem dX3_areTwoUsers_18 : decode cX3_areTwoUsers 18 = .ok (.if_icmp .eq 7, 3) := by decide +kernel
theorem dX3_areTwoUsers_21 : decode cX3_areTwoUsers 21 = .ok (.iconst 1, 1) := by decide +kernel
theorem dX3_areTwoUsers_22 : decode cX3_areTwoUsers 22 = .ok (.goto 4, 3) := by decide +kernel
theorem dX3_areTwoUsers_25 : decode cX3_areTwoUsers 25 = .ok (.iconst 0, 1) := by decide +kernel
theorem dX3_areTwoUsers_26 : decode cX3_areTwoUsers 26 = .ok (.ireturn, 1) := by decide +kernel
theorem dX3_isImage_0 : decode cX3_isImage 0 = .ok (.iload_n 0, 1) := by decide +kernel
theorem dX3_isImage_1 : decode cX3_isImage 1 = .ok (.ifCond .lt 12, 3) := by decide +kernel
theorem dX3_isImage_4 : decode cX3_isImage 4 = .ok (.iload_n 0, 1) := by decide +kernel
theorem dX3_isImage_5 : decode cX3_isImage 5 = .ok (.iconst 2, 1) := by decide +kernel
theorem dX3_isImage_6 : decode cX3_isImage 6 = .ok (.if_icmp .ge 7, 3) := by decide +kernel
theorem dX3_isImage_9 : decode cX3_isImage 9 = .ok (.iconst 1, 1) := by decide +kernel
theorem dX3_isImage_10 : decode cX3_isImage 10 = .ok (.goto 4, 3) := by decide +kernel
theorem dX3_isImage_13 : decode cX3_isImage 13 = .ok (.iconst 0, 1) := by decide +kernel
theorem dX3_isImage_14 : decode cX3_isImage 14 = .ok (.ireturn, 1) := by decide +kernel
theorem dX3_isSlotAsked_0 : decode cX3_isSlotAsked 0 = .ok (.iload_n 0, 1) := by decide +kernel
theorem dX3_isSlotAsked_1 : decode cX3_isSlotAsked 1 = .ok (.ifCond .lt 14, 3) := by decide +kernel
theorem dX3_isSlotAsked_4 : decode cX3_isSlotAsked 4 = .ok (.iload_n 0, 1) := by decide +kernel
theorem dX3_isSlotAsked_5 : decode cX3_isSlotAsked 5 = .ok (.sipush 3000, 3) := by decide +kernel
theorem dX3_isSlotAsked_8 : decode cX3_isSlotAsked 8 = .ok (.if_icmp .gt 7, 3) := by decide +kernel
theorem dX3_isSlotAsked_11 : decode cX3_isSlotAsked 11 = .ok (.iconst 1, 1) := by decide +kernel
theorem dX3_isSlotAsked_12 : decode cX3_isSlotAsked 12 = .ok (.goto 4, 3) := by decide +kernel
theorem dX3_isSlotAsked_15 : decode cX3_isSlotAsked 15 = .ok (.iconst 0, 1) := by decide +kernel
theorem dX3_isSlotAsked_16 : decode cX3_isSlotAsked 16 = .ok (.ireturn, 1) := by decide +kernel
theorem dX3_isShift_0 : decode cX3_isShift 0 = .ok (.iload_n 0, 1) := by decide +kernel
theorem dX3_isShift_1 : decode cX3_isShift 1 = .ok (.ifCond .lt 14, 3) := by decide +kernel
theorem dX3_isShift_4 : decode cX3_isShift 4 = .ok (.iload_n 0, 1) := by decide +kernel
theorem dX3_isShift_5 : decode cX3_isShift 5 = .ok (.sipush 200, 3) := by decide +kernel
theorem dX3_isShift_8 : decode cX3_isShift 8 = .ok (.if_icmp .gt 7, 3) := by decide +kernel
theorem dX3_isShift_11 : decode cX3_isShift 11 = .ok (.iconst 1, 1) := by decide +kernel
theorem dX3_isShift_12 : decode cX3_isShift 12 = .ok (.goto 4, 3) := by decide +kernel
theorem dX3_isShift_15 : decode cX3_isShift 15 = .ok (.iconst 0, 1) := by decide +kernel
theorem dX3_isShift_16 : decode cX3_isShift 16 = .ok (.ireturn, 1) := by decide +kernel
theorem dX3_mayHave_0 : decode cX3_mayHave 0 = .ok (.iload_n 0, 1) := by decide +kernel
theorem dX3_mayHave_1 : decode cX3_mayHave 1 = .ok (.ifCond .lt 25, 3) := by decide +kernel
theorem dX3_mayHave_4 : decode cX3_mayHave 4 = .ok (.iload_n 0, 1) := by decide +kernel
theorem dX3_mayHave_5 : decode cX3_mayHave 5 = .ok (.iconst 3, 1) := by decide +kernel
theorem dX3_mayHave_6 : decode cX3_mayHave 6 = .ok (.if_icmp .gt 20, 3) := by decide +kernel
theorem dX3_mayHave_9 : decode cX3_mayHave 9 = .ok (.iload_n 1, 1) := by decide +kernel
theorem dX3_mayHave_10 : decode cX3_mayHave 10 = .ok (.ifCond .lt 16, 3) := by decide +kernel
theorem dX3_mayHave_13 : decode cX3_mayHave 13 = .ok (.iload_n 1, 1) := by decide +kernel
theorem dX3_mayHave_14 : decode cX3_mayHave 14 = .ok (.getstatic 185, 3) := by decide +kernel
theorem dX3_mayHave_17 : decode cX3_mayHave 17 = .ok (.iload_n 0, 1) := by decide +kernel
theorem dX3_mayHave_18 : decode cX3_mayHave 18 = .ok (.iaload, 1) := by decide +kernel
theorem dX3_mayHave_19 : decode cX3_mayHave 19 = .ok (.if_icmp .gt 7, 3) := by decide +kernel
theorem dX3_mayHave_22 : decode cX3_mayHave 22 = .ok (.iconst 1, 1) := by decide +kernel
theorem dX3_mayHave_23 : decode cX3_mayHave 23 = .ok (.goto 4, 3) := by decide +kernel
theorem dX3_mayHave_26 : decode cX3_mayHave 26 = .ok (.iconst 0, 1) := by decide +kernel
theorem dX3_mayHave_27 : decode cX3_mayHave 27 = .ok (.ireturn, 1) := by decide +kernel
set_option maxRecDepth 20000 in
theorem ggX3_change_X1_remember : GoodIn wsX3_change wsX1_remember := goodIn_r _ [10, 11, 12, 13, 14, 15, 16, 17, 18, 19, 20, 21, 22, 23, 24, 25, 26, 27, 28, 29, 30, 31, 32, 55, 56, 57, 49, 50, 51, 52, 53, 54] (by decide +kernel) (by decide +kernel)
set_option maxRecDepth 20000 in
theorem gX3_change_X1_remember : GoodIn wsX3_change (wsV RX3 71 RX1 yX1_remember wsX1_remember) := goodIn_app (goodIn_of _ (by decide +kernel)) ggX3_change_X1_remember
set_option maxRecDepth 20000 in
theorem ggX3_change_X0_begin : GoodIn wsX3_change wsX0_begin := goodIn_r _ [37, 38, 39, 40, 58, 59, 60, 61] (by decide +kernel) (by decide +kernel)
set_option maxRecDepth 20000 in
theorem gX3_change_X0_begin : GoodIn wsX3_change (wsV RX3 56 RX0 yX0_begin wsX0_begin) := goodIn_app (goodIn_of _ (by decide +kernel)) ggX3_change_X0_begin
theorem dX3_change_0 : decode cX3_change 0 = .ok (.aload_n 0, 1) := by decide +kernel
theorem dX3_change_1 : decode cX3_change 1 = .ok (.getfield 19, 3) := by decide +kernel
theorem dX3_change_4 : decode cX3_change 4 = .ok (.aload_n 0, 1) := by decide +kernel
theorem dX3_change_5 : decode cX3_change 5 = .ok (.getfield 10, 3) := by decide +kernel
theorem dX3_change_8 : decode cX3_change 8 = .ok (.invokevirtual 71, 3) := by decide +kernel
theorem dX3_change_11 : decode cX3_change 11 = .ok (.aload_n 0, 1) := by decide +kernel
theorem dX3_change_12 : decode cX3_change 12 = .ok (.getfield 10, 3) := by decide +kernel
theorem dX3_change_15 : decode cX3_change 15 = .ok (.getfield 128, 3) := by decide +kernel
theorem dX3_change_18 : decode cX3_change 18 = .ok (.iload_n 1, 1) := by decide +kernel
theorem dX3_change_19 : decode cX3_change 19 = .ok (.aaload, 1) := by decide +kernel
theorem dX3_change_20 : decode cX3_change 20 = .ok (.iload_n 2, 1) := by decide +kernel
theorem dX3_change_21 : decode cX3_change 21 = .ok (.iaload, 1) := by decide +kernel
theorem dX3_change_22 : decode cX3_change 22 = .ok (.istore 4, 2) := by decide +kernel
theorem dX3_change_24 : decode cX3_change 24 = .ok (.aload_n 0, 1) := by decide +kernel
theorem dX3_change_25 : decode cX3_change 25 = .ok (.getfield 10, 3) := by decide +kernel
theorem dX3_change_28 : decode cX3_change 28 = .ok (.getfield 128, 3) := by decide +kernel
theorem dX3_change_31 : decode cX3_change 31 = .ok (.iload_n 1, 1) := by decide +kernel
theorem dX3_change_32 : decode cX3_change 32 = .ok (.aaload, 1) := by decide +kernel
theorem dX3_change_33 : decode cX3_change 33 = .ok (.iload_n 2, 1) := by decide +kernel
theorem dX3_change_34 : decode cX3_change 34 = .ok (.iload_n 3, 1) := by decide +kernel
theorem dX3_change_35 : decode cX3_change 35 = .ok (.iastore, 1) := by decide +kernel
theorem dX3_change_36 : decode cX3_change 36 = .ok (.aload_n 0, 1) := by decide +kernel
theorem dX3_change_37 : decode cX3_change 37 = .ok (.getfield 34, 3) := by decide +kernel
theorem dX3_change_40 : decode cX3_change 40 = .ok (.aload_n 0, 1) := by decide +kernel
theorem dX3_change_41 : decode cX3_change 41 = .ok (.getfield 10, 3) := by decide +kernel
theorem dX3_change_44 : decode cX3_change 44 = .ok (.getfield 67, 3) := by decide +kernel
theorem dX3_change_47 : decode cX3_change 47 = .ok (.invokevirtual 56, 3) := by decide +kernel
theorem dX3_change_50 : decode cX3_change 50 = .ok (.iload 4, 2) := by decide +kernel
theorem dX3_change_52 : decode cX3_change 52 = .ok (.ireturn, 1) := by decide +kernel
set_option maxRecDepth 20000 in
theorem ggX3_worstOfShifts_X2_placeByClock : GoodIn wsX3_worstOfShifts wsX2_placeByClock := goodIn_r _ [13, 14, 15, 16, 17, 12, 18, 19, 20, 21, 22, 23, 24, 25, 26, 27, 28, 29, 30, 31, 32, 33, 34, 35, 36, 37, 51, 52, 53, 54, 55, 56] (by decide +kernel) (by decide +kernel)
set_option maxRecDepth 20000 in
theorem gX3_worstOfShifts_X2_placeByClock : GoodIn wsX3_worstOfShifts (wsV RX3 188 RX2 yX2_placeByClock wsX2_placeByClock) := goodIn_app (goodIn_of _ (by decide +kernel)) ggX3_worstOfShifts_X2_placeByClock
set_option maxRecDepth 20000 in
theorem ggX3_worstOfShifts_X3_slotsToMeet : GoodIn wsX3_worstOfShifts wsX3_slotsToMeet := goodIn_r _ [42, 3, 1, 4, 43, 44, 45, 46, 47, 48, 49, 50] (by decide +kernel) (by decide +kernel)
set_option maxRecDepth 20000 in
theorem gX3_worstOfShifts_X3_slotsToMeet : GoodIn wsX3_worstOfShifts (wsV RX3 192 RX3 yX3_slotsToMeet wsX3_slotsToMeet) := goodIn_app (goodIn_of _ (by decide +kernel)) ggX3_worstOfShifts_X3_slotsToMeet
theorem dX3_worstOfShifts_0 : decode cX3_worstOfShifts 0 = .ok (.iconst 0, 1) := by decide +kernel
theorem dX3_worstOfShifts_1 : decode cX3_worstOfShifts 1 = .ok (.istore 4, 2) := by decide +kernel
theorem dX3_worstOfShifts_3 : decode cX3_worstOfShifts 3 = .ok (.iload 4, 2) := by decide +kernel
theorem dX3_worstOfShifts_5 : decode cX3_worstOfShifts 5 = .ok (.sipush 1500, 3) := by decide +kernel
theorem dX3_worstOfShifts_8 : decode cX3_worstOfShifts 8 = .ok (.iload_n 3, 1) := by decide +kernel
theorem dX3_worstOfShifts_9 : decode cX3_worstOfShifts 9 = .ok (.iadd, 1) := by decide +kernel
theorem dX3_worstOfShifts_10 : decode cX3_worstOfShifts 10 = .ok (.if_icmp .ge 26, 3) := by decide +kernel
theorem dX3_worstOfShifts_13 : decode cX3_worstOfShifts 13 = .ok (.aload_n 0, 1) := by decide +kernel
theorem dX3_worstOfShifts_14 : decode cX3_worstOfShifts 14 = .ok (.getfield 38, 3) := by decide +kernel
theorem dX3_worstOfShifts_17 : decode cX3_worstOfShifts 17 = .ok (.iload 4, 2) := by decide +kernel
theorem dX3_worstOfShifts_19 : decode cX3_worstOfShifts 19 = .ok (.aload_n 0, 1) := by decide +kernel
theorem dX3_worstOfShifts_20 : decode cX3_worstOfShifts 20 = .ok (.getfield 10, 3) := by decide +kernel
theorem dX3_worstOfShifts_23 : decode cX3_worstOfShifts 23 = .ok (.iload_n 1, 1) := by decide +kernel
theorem dX3_worstOfShifts_24 : decode cX3_worstOfShifts 24 = .ok (.iload 4, 2) := by decide +kernel
theorem dX3_worstOfShifts_26 : decode cX3_worstOfShifts 26 = .ok (.invokevirtual 188, 3) := by decide +kernel
theorem dX3_worstOfShifts_29 : decode cX3_worstOfShifts 29 = .ok (.iastore, 1) := by decide +kernel
theorem dX3_worstOfShifts_30 : decode cX3_worstOfShifts 30 = .ok (.iinc 4 1, 3) := by decide +kernel
theorem dX3_worstOfShifts_33 : decode cX3_worstOfShifts 33 = .ok (.goto (-30), 3) := by decide +kernel
theorem dX3_worstOfShifts_36 : decode cX3_worstOfShifts 36 = .ok (.iconst 0, 1) := by decide +kernel
theorem dX3_worstOfShifts_37 : decode cX3_worstOfShifts 37 = .ok (.istore 4, 2) := by decide +kernel
theorem dX3_worstOfShifts_39 : decode cX3_worstOfShifts 39 = .ok (.iload 4, 2) := by decide +kernel
theorem dX3_worstOfShifts_41 : decode cX3_worstOfShifts 41 = .ok (.sipush 1500, 3) := by decide +kernel
theorem dX3_worstOfShifts_44 : decode cX3_worstOfShifts 44 = .ok (.if_icmp .ge 26, 3) := by decide +kernel
theorem dX3_worstOfShifts_47 : decode cX3_worstOfShifts 47 = .ok (.aload_n 0, 1) := by decide +kernel
theorem dX3_worstOfShifts_48 : decode cX3_worstOfShifts 48 = .ok (.getfield 42, 3) := by decide +kernel
theorem dX3_worstOfShifts_51 : decode cX3_worstOfShifts 51 = .ok (.iload 4, 2) := by decide +kernel
theorem dX3_worstOfShifts_53 : decode cX3_worstOfShifts 53 = .ok (.aload_n 0, 1) := by decide +kernel
theorem dX3_worstOfShifts_54 : decode cX3_worstOfShifts 54 = .ok (.getfield 10, 3) := by decide +kernel
theorem dX3_worstOfShifts_57 : decode cX3_worstOfShifts 57 = .ok (.iload_n 2, 1) := by decide +kernel
theorem dX3_worstOfShifts_58 : decode cX3_worstOfShifts 58 = .ok (.iload 4, 2) := by decide +kernel
theorem dX3_worstOfShifts_60 : decode cX3_worstOfShifts 60 = .ok (.invokevirtual 188, 3) := by decide +kernel
theorem dX3_worstOfShifts_63 : decode cX3_worstOfShifts 63 = .ok (.iastore, 1) := by decide +kernel
theorem dX3_worstOfShifts_64 : decode cX3_worstOfShifts 64 = .ok (.iinc 4 1, 3) := by decide +kernel
theorem dX3_worstOfShifts_67 : decode cX3_worstOfShifts 67 = .ok (.goto (-28), 3) := by decide +kernel
theorem dX3_worstOfShifts_70 : decode cX3_worstOfShifts 70 = .ok (.iconst 0, 1) := by decide +kernel
theorem dX3_worstOfShifts_71 : decode cX3_worstOfShifts 71 = .ok (.istore 4, 2) := by decide +kernel
theorem dX3_worstOfShifts_73 : decode cX3_worstOfShifts 73 = .ok (.iconst 0, 1) := by decide +kernel
theorem dX3_worstOfShifts_74 : decode cX3_worstOfShifts 74 = .ok (.istore 5, 2) := by decide +kernel
theorem dX3_worstOfShifts_76 : decode cX3_worstOfShifts 76 = .ok (.iload 5, 2) := by decide +kernel
theorem dX3_worstOfShifts_78 : decode cX3_worstOfShifts 78 = .ok (.iload_n 3, 1) := by decide +kernel
theorem dX3_worstOfShifts_79 : decode cX3_worstOfShifts 79 = .ok (.if_icmp .gt 29, 3) := by decide +kernel
theorem dX3_worstOfShifts_82 : decode cX3_worstOfShifts 82 = .ok (.iload 4, 2) := by decide +kernel
theorem dX3_worstOfShifts_84 : decode cX3_worstOfShifts 84 = .ok (.ldc 191, 2) := by decide +kernel
theorem dX3_worstOfShifts_86 : decode cX3_worstOfShifts 86 = .ok (.if_icmp .ge 22, 3) := by decide +kernel
theorem dX3_worstOfShifts_89 : decode cX3_worstOfShifts 89 = .ok (.iload 4, 2) := by decide +kernel
theorem dX3_worstOfShifts_91 : decode cX3_worstOfShifts 91 = .ok (.aload_n 0, 1) := by decide +kernel
theorem dX3_worstOfShifts_92 : decode cX3_worstOfShifts 92 = .ok (.iload 5, 2) := by decide +kernel
theorem dX3_worstOfShifts_94 : decode cX3_worstOfShifts 94 = .ok (.invokevirtual 192, 3) := by decide +kernel
theorem dX3_worstOfShifts_97 : decode cX3_worstOfShifts 97 = .ok (.invokestatic 168, 3) := by decide +kernel
theorem dX3_worstOfShifts_100 : decode cX3_worstOfShifts 100 = .ok (.istore 4, 2) := by decide +kernel
theorem dX3_worstOfShifts_102 : decode cX3_worstOfShifts 102 = .ok (.iinc 5 1, 3) := by decide +kernel
theorem dX3_worstOfShifts_105 : decode cX3_worstOfShifts 105 = .ok (.goto (-29), 3) := by decide +kernel
theorem dX3_worstOfShifts_108 : decode cX3_worstOfShifts 108 = .ok (.iload 4, 2) := by decide +kernel
theorem dX3_worstOfShifts_110 : decode cX3_worstOfShifts 110 = .ok (.ireturn, 1) := by decide +kernel
theorem dX3_slotsToMeet_0 : decode cX3_slotsToMeet 0 = .ok (.iconst 0, 1) := by decide +kernel
theorem dX3_slotsToMeet_1 : decode cX3_slotsToMeet 1 = .ok (.istore_n 2, 1) := by decide +kernel
theorem dX3_slotsToMeet_2 : decode cX3_slotsToMeet 2 = .ok (.iload_n 2, 1) := by decide +kernel
theorem dX3_slotsToMeet_3 : decode cX3_slotsToMeet 3 = .ok (.sipush 1500, 3) := by decide +kernel
theorem dX3_slotsToMeet_6 : decode cX3_slotsToMeet 6 = .ok (.if_icmp .ge 35, 3) := by decide +kernel
theorem dX3_slotsToMeet_9 : decode cX3_slotsToMeet 9 = .ok (.aload_n 0, 1) := by decide +kernel
theorem dX3_slotsToMeet_10 : decode cX3_slotsToMeet 10 = .ok (.getfield 42, 3) := by decide +kernel
theorem dX3_slotsToMeet_13 : decode cX3_slotsToMeet 13 = .ok (.iload_n 2, 1) := by decide +kernel
theorem dX3_slotsToMeet_14 : decode cX3_slotsToMeet 14 = .ok (.iaload, 1) := by decide +kernel
theorem dX3_slotsToMeet_15 : decode cX3_slotsToMeet 15 = .ok (.istore_n 3, 1) := by decide +kernel
theorem dX3_slotsToMeet_16 : decode cX3_slotsToMeet 16 = .ok (.iload_n 3, 1) := by decide +kernel
theorem dX3_slotsToMeet_17 : decode cX3_slotsToMeet 17 = .ok (.iconst (-1), 1) := by decide +kernel
theorem dX3_slotsToMeet_18 : decode cX3_slotsToMeet 18 = .ok (.if_icmp .eq 17, 3) := by decide +kernel
theorem dX3_slotsToMeet_21 : decode cX3_slotsToMeet 21 = .ok (.iload_n 3, 1) := by decide +kernel
theorem dX3_slotsToMeet_22 : decode cX3_slotsToMeet 22 = .ok (.aload_n 0, 1) := by decide +kernel
theorem dX3_slotsToMeet_23 : decode cX3_slotsToMeet 23 = .ok (.getfield 38, 3) := by decide +kernel
theorem dX3_slotsToMeet_26 : decode cX3_slotsToMeet 26 = .ok (.iload_n 2, 1) := by decide +kernel
theorem dX3_slotsToMeet_27 : decode cX3_slotsToMeet 27 = .ok (.iload_n 1, 1) := by decide +kernel
theorem dX3_slotsToMeet_28 : decode cX3_slotsToMeet 28 = .ok (.iadd, 1) := by decide +kernel
theorem dX3_slotsToMeet_29 : decode cX3_slotsToMeet 29 = .ok (.iaload, 1) := by decide +kernel
theorem dX3_slotsToMeet_30 : decode cX3_slotsToMeet 30 = .ok (.if_icmp .ne 5, 3) := by decide +kernel
theorem dX3_slotsToMeet_33 : decode cX3_slotsToMeet 33 = .ok (.iload_n 2, 1) := by decide +kernel
theorem dX3_slotsToMeet_34 : decode cX3_slotsToMeet 34 = .ok (.ireturn, 1) := by decide +kernel
theorem dX3_slotsToMeet_35 : decode cX3_slotsToMeet 35 = .ok (.iinc 2 1, 3) := by decide +kernel
theorem dX3_slotsToMeet_38 : decode cX3_slotsToMeet 38 = .ok (.goto (-36), 3) := by decide +kernel
theorem dX3_slotsToMeet_41 : decode cX3_slotsToMeet 41 = .ok (.ldc 191, 2) := by decide +kernel
theorem dX3_slotsToMeet_43 : decode cX3_slotsToMeet 43 = .ok (.ireturn, 1) := by decide +kernel
set_option maxRecDepth 20000 in
theorem ggX3_countTimesOn_X2_placeByClock : GoodIn wsX3_countTimesOn wsX2_placeByClock := goodIn_r _ [7, 8, 9, 10, 11, 6, 12, 13, 14, 15, 16, 17, 18, 19, 20, 21, 22, 23, 24, 25, 26, 27, 28, 29, 30, 31, 40, 41, 42, 43, 44, 45] (by decide +kernel) (by decide +kernel)
set_option maxRecDepth 20000 in
theorem gX3_countTimesOn_X2_placeByClock : GoodIn wsX3_countTimesOn (wsV RX3 188 RX2 yX2_placeByClock wsX2_placeByClock) := goodIn_app (goodIn_of _ (by decide +kernel)) ggX3_countTimesOn_X2_placeByClock
theorem dX3_countTimesOn_0 : decode cX3_countTimesOn 0 = .ok (.iconst 0, 1) := by decide +kernel
theorem dX3_countTimesOn_1 : decode cX3_countTimesOn 1 = .ok (.istore_n 3, 1) := by decide +kernel
theorem dX3_countTimesOn_2 : decode cX3_countTimesOn 2 = .ok (.iload_n 3, 1) := by decide +kernel
theorem dX3_countTimesOn_3 : decode cX3_countTimesOn 3 = .ok (.bipush 10, 2) := by decide +kernel
theorem dX3_countTimesOn_5 : decode cX3_countTimesOn 5 = .ok (.if_icmp .ge 16, 3) := by decide +kernel
theorem dX3_countTimesOn_8 : decode cX3_countTimesOn 8 = .ok (.aload_n 0, 1) := by decide +kernel
theorem dX3_countTimesOn_9 : decode cX3_countTimesOn 9 = .ok (.getfield 45, 3) := by decide +kernel
theorem dX3_countTimesOn_12 : decode cX3_countTimesOn 12 = .ok (.iload_n 3, 1) := by decide +kernel
theorem dX3_countTimesOn_13 : decode cX3_countTimesOn 13 = .ok (.iconst 0, 1) := by decide +kernel
theorem dX3_countTimesOn_14 : decode cX3_countTimesOn 14 = .ok (.iastore, 1) := by decide +kernel
theorem dX3_countTimesOn_15 : decode cX3_countTimesOn 15 = .ok (.iinc 3 1, 3) := by decide +kernel
theorem dX3_countTimesOn_18 : decode cX3_countTimesOn 18 = .ok (.goto (-16), 3) := by decide +kernel
theorem dX3_countTimesOn_21 : decode cX3_countTimesOn 21 = .ok (.iconst 0, 1) := by decide +kernel
theorem dX3_countTimesOn_22 : decode cX3_countTimesOn 22 = .ok (.istore_n 3, 1) := by decide +kernel
theorem dX3_countTimesOn_23 : decode cX3_countTimesOn 23 = .ok (.iload_n 3, 1) := by decide +kernel
theorem dX3_countTimesOn_24 : decode cX3_countTimesOn 24 = .ok (.iload_n 2, 1) := by decide +kernel
theorem dX3_countTimesOn_25 : decode cX3_countTimesOn 25 = .ok (.if_icmp .ge 37, 3) := by decide +kernel
theorem dX3_countTimesOn_28 : decode cX3_countTimesOn 28 = .ok (.aload_n 0, 1) := by decide +kernel
theorem dX3_countTimesOn_29 : decode cX3_countTimesOn 29 = .ok (.getfield 10, 3) := by decide +kernel
theorem dX3_countTimesOn_32 : decode cX3_countTimesOn 32 = .ok (.iload_n 1, 1) := by decide +kernel
theorem dX3_countTimesOn_33 : decode cX3_countTimesOn 33 = .ok (.iload_n 3, 1) := by decide +kernel
theorem dX3_countTimesOn_34 : decode cX3_countTimesOn 34 = .ok (.invokevirtual 188, 3) := by decide +kernel
theorem dX3_countTimesOn_37 : decode cX3_countTimesOn 37 = .ok (.istore 4, 2) := by decide +kernel
theorem dX3_countTimesOn_39 : decode cX3_countTimesOn 39 = .ok (.iload 4, 2) := by decide +kernel
theorem dX3_countTimesOn_41 : decode cX3_countTimesOn 41 = .ok (.iconst (-1), 1) := by decide +kernel
theorem dX3_countTimesOn_42 : decode cX3_countTimesOn 42 = .ok (.if_icmp .eq 14, 3) := by decide +kernel
theorem dX3_countTimesOn_45 : decode cX3_countTimesOn 45 = .ok (.aload_n 0, 1) := by decide +kernel
theorem dX3_countTimesOn_46 : decode cX3_countTimesOn 46 = .ok (.getfield 45, 3) := by decide +kernel
theorem dX3_countTimesOn_49 : decode cX3_countTimesOn 49 = .ok (.iload 4, 2) := by decide +kernel
theorem dX3_countTimesOn_51 : decode cX3_countTimesOn 51 = .ok (.dup2, 1) := by decide +kernel
theorem dX3_countTimesOn_52 : decode cX3_countTimesOn 52 = .ok (.iaload, 1) := by decide +kernel
theorem dX3_countTimesOn_53 : decode cX3_countTimesOn 53 = .ok (.iconst 1, 1) := by decide +kernel
theorem dX3_countTimesOn_54 : decode cX3_countTimesOn 54 = .ok (.iadd, 1) := by decide +kernel
theorem dX3_countTimesOn_55 : decode cX3_countTimesOn 55 = .ok (.iastore, 1) := by decide +kernel
theorem dX3_countTimesOn_56 : decode cX3_countTimesOn 56 = .ok (.iinc 3 1, 3) := by decide +kernel
theorem dX3_countTimesOn_59 : decode cX3_countTimesOn 59 = .ok (.goto (-36), 3) := by decide +kernel
theorem dX3_countTimesOn_62 : decode cX3_countTimesOn 62 = .ok (.return_, 1) := by decide +kernel
set_option maxRecDepth 20000 in
theorem ggX4_init_X4_layPrime : GoodIn wsX4_init wsX4_layPrime := goodIn_r _ [16, 5, 17, 18, 19, 15, 20, 26, 27, 28, 29, 30, 31, 32, 33, 34, 35] (by decide +kernel) (by decide +kernel)
set_option maxRecDepth 20000 in
theorem gX4_init_X4_layPrime : GoodIn wsX4_init (wsV RX4 29 RX4 yX4_layPrime wsX4_layPrime) := goodIn_app (goodIn_of _ (by decide +kernel)) ggX4_init_X4_layPrime
set_option maxRecDepth 20000 in
theorem ggX4_init_X4_anew : GoodIn wsX4_init wsX4_anew := goodIn_r _ [24, 25, 10, 26, 27, 28, 29, 30, 31, 32, 33, 34, 35] (by decide +kernel) (by decide +kernel)
set_option maxRecDepth 20000 in
theorem gX4_init_X4_anew : GoodIn wsX4_init (wsV RX4 32 RX4 yX4_anew wsX4_anew) := goodIn_app (goodIn_of _ (by decide +kernel)) ggX4_init_X4_anew
theorem dX4_init_0 : decode cX4_init 0 = .ok (.aload_n 0, 1) := by decide +kernel
theorem dX4_init_1 : decode cX4_init 1 = .ok (.invokespecial 1, 3) := by decide +kernel
theorem dX4_init_4 : decode cX4_init 4 = .ok (.aload_n 0, 1) := by decide +kernel
theorem dX4_init_5 : decode cX4_init 5 = .ok (.bipush 60, 2) := by decide +kernel
theorem dX4_init_7 : decode cX4_init 7 = .ok (.newarray .int, 2) := by decide +kernel
theorem dX4_init_9 : decode cX4_init 9 = .ok (.putfield 7, 3) := by decide +kernel
theorem dX4_init_12 : decode cX4_init 12 = .ok (.aload_n 0, 1) := by decide +kernel
theorem dX4_init_13 : decode cX4_init 13 = .ok (.sipush 720, 3) := by decide +kernel
theorem dX4_init_16 : decode cX4_init 16 = .ok (.newarray .int, 2) := by decide +kernel
theorem dX4_init_18 : decode cX4_init 18 = .ok (.putfield 13, 3) := by decide +kernel
theorem dX4_init_21 : decode cX4_init 21 = .ok (.aload_n 0, 1) := by decide +kernel
theorem dX4_init_22 : decode cX4_init 22 = .ok (.bipush 120, 2) := by decide +kernel
theorem dX4_init_24 : decode cX4_init 24 = .ok (.newarray .int, 2) := by decide +kernel
theorem dX4_init_26 : decode cX4_init 26 = .ok (.putfield 16, 3) := by decide +kernel
theorem dX4_init_29 : decode cX4_init 29 = .ok (.aload_n 0, 1) := by decide +kernel
theorem dX4_init_30 : decode cX4_init 30 = .ok (.iconst 2, 1) := by decide +kernel
theorem dX4_init_31 : decode cX4_init 31 = .ok (.newarray .boolean, 2) := by decide +kernel
theorem dX4_init_33 : decode cX4_init 33 = .ok (.putfield 19, 3) := by decide +kernel
theorem dX4_init_36 : decode cX4_init 36 = .ok (.aload_n 0, 1) := by decide +kernel
theorem dX4_init_37 : decode cX4_init 37 = .ok (.iconst 5, 1) := by decide +kernel
theorem dX4_init_38 : decode cX4_init 38 = .ok (.newarray .int, 2) := by decide +kernel
theorem dX4_init_40 : decode cX4_init 40 = .ok (.putfield 23, 3) := by decide +kernel
theorem dX4_init_43 : decode cX4_init 43 = .ok (.aload_n 0, 1) := by decide +kernel
theorem dX4_init_44 : decode cX4_init 44 = .ok (.bipush 10, 2) := by decide +kernel
theorem dX4_init_46 : decode cX4_init 46 = .ok (.newarray .int, 2) := by decide +kernel
theorem dX4_init_48 : decode cX4_init 48 = .ok (.putfield 26, 3) := by decide +kernel
theorem dX4_init_51 : decode cX4_init 51 = .ok (.aload_n 0, 1) := by decide +kernel
theorem dX4_init_52 : decode cX4_init 52 = .ok (.getfield 7, 3) := by decide +kernel
theorem dX4_init_55 : decode cX4_init 55 = .ok (.iconst 0, 1) := by decide +kernel
theorem dX4_init_56 : decode cX4_init 56 = .ok (.iconst 4, 1) := by decide +kernel
theorem dX4_init_57 : decode cX4_init 57 = .ok (.iastore, 1) := by decide +kernel
theorem dX4_init_58 : decode cX4_init 58 = .ok (.aload_n 0, 1) := by decide +kernel
theorem dX4_init_59 : decode cX4_init 59 = .ok (.invokevirtual 29, 3) := by decide +kernel
theorem dX4_init_62 : decode cX4_init 62 = .ok (.aload_n 0, 1) := by decide +kernel
theorem dX4_init_63 : decode cX4_init 63 = .ok (.invokevirtual 32, 3) := by decide +kernel
theorem dX4_init_66 : decode cX4_init 66 = .ok (.return_, 1) := by decide +kernel
theorem dX4_in_0 : decode cX4_in 0 = .ok (.iload_n 0, 1) := by decide +kernel
theorem dX4_in_1 : decode cX4_in 1 = .ok (.iload_n 1, 1) := by decide +kernel
theorem dX4_in_2 : decode cX4_in 2 = .ok (.if_icmp .lt 12, 3) := by decide +kernel
theorem dX4_in_5 : decode cX4_in 5 = .ok (.iload_n 0, 1) := by decide +kernel
theorem dX4_in_6 : decode cX4_in 6 = .ok (.iload_n 2, 1) := by decide +kernel
theorem dX4_in_7 : decode cX4_in 7 = .ok (.if_icmp .gt 7, 3) := by decide +kernel
theorem dX4_in_10 : decode cX4_in 10 = .ok (.iconst 1, 1) := by decide +kernel
theorem dX4_in_11 : decode cX4_in 11 = .ok (.goto 4, 3) := by decide +kernel
theorem dX4_in_14 : decode cX4_in 14 = .ok (.iconst 0, 1) := by decide +kernel
theorem dX4_in_15 : decode cX4_in 15 = .ok (.ireturn, 1) := by decide +kernel
theorem dX4_bring_0 : decode cX4_bring 0 = .ok (.iconst 0, 1) := by decide +kernel
theorem dX4_bring_1 : decode cX4_bring 1 = .ok (.istore 5, 2) := by decide +kernel
theorem dX4_bring_3 : decode cX4_bring 3 = .ok (.iload 5, 2) := by decide +kernel
theorem dX4_bring_5 : decode cX4_bring 5 = .ok (.iload 4, 2) := by decide +kernel
theorem dX4_bring_7 : decode cX4_bring 7 = .ok (.if_icmp .ge 21, 3) := by decide +kernel
theorem dX4_bring_10 : decode cX4_bring 10 = .ok (.aload_n 2, 1) := by decide +kernel
theorem dX4_bring_11 : decode cX4_bring 11 = .ok (.iload_n 3, 1) := by decide +kernel
theorem dX4_bring_12 : decode cX4_bring 12 = .ok (.iload 5, 2) := by decide +kernel
theorem dX4_bring_14 : decode cX4_bring 14 = .ok (.iadd, 1) := by decide +kernel
theorem dX4_bring_15 : decode cX4_bring 15 = .ok (.aload_n 0, 1) := by decide +kernel
theorem dX4_bring_16 : decode cX4_bring 16 = .ok (.iload_n 1, 1) := by decide +kernel
theorem dX4_bring_17 : decode cX4_bring 17 = .ok (.iload 5, 2) := by decide +kernel
theorem dX4_bring_19 : decode cX4_bring 19 = .ok (.iadd, 1) := by decide +kernel
theorem dX4_bring_20 : decode cX4_bring 20 = .ok (.iaload, 1) := by decide +kernel
theorem dX4_bring_21 : decode cX4_bring 21 = .ok (.iastore, 1) := by decide +kernel
theorem dX4_bring_22 : decode cX4_bring 22 = .ok (.iinc 5 1, 3) := by decide +kernel
theorem dX4_bring_25 : decode cX4_bring 25 = .ok (.goto (-22), 3) := by decide +kernel
theorem dX4_bring_28 : decode cX4_bring 28 = .ok (.return_, 1) := by decide +kernel
theorem dX4_all_0 : decode cX4_all 0 = .ok (.iconst 1, 1) := by decide +kernel
theorem dX4_all_1 : decode cX4_all 1 = .ok (.aload_n 0, 1) := by decide +kernel
theorem dX4_all_2 : decode cX4_all 2 = .ok (.getfield 7, 3) := by decide +kernel
theorem dX4_all_5 : decode cX4_all 5 = .ok (.iconst 0, 1) := by decide +kernel
theorem dX4_all_6 : decode cX4_all 6 = .ok (.iaload, 1) := by decide +kernel
theorem dX4_all_7 : decode cX4_all 7 = .ok (.ishl, 1) := by decide +kernel
theorem dX4_all_8 : decode cX4_all 8 = .ok (.iconst 1, 1) := by decide +kernel
theorem dX4_all_9 : decode cX4_all 9 = .ok (.isub, 1) := by decide +kernel
theorem dX4_all_10 : decode cX4_all 10 = .ok (.ireturn, 1) := by decide +kernel
set_option maxRecDepth 20000 in
theorem ggX4_layPrime_X4_isPrime : GoodIn wsX4_layPrime wsX4_isPrime := goodIn_r _ [6] (by decide +kernel) (by decide +kernel)
set_option maxRecDepth 20000 in
theorem gX4_layPrime_X4_isPrime : GoodIn wsX4_layPrime (va_wsS RX4 39 yX4_isPrime wsX4_isPrime) := goodIn_app (goodIn_of _ (by decide +kernel)) ggX4_layPrime_X4_isPrime
theorem dX4_layPrime_0 : decode cX4_layPrime 0 = .ok (.aload_n 0, 1) := by decide +kernel
theorem dX4_layPrime_1 : decode cX4_layPrime 1 = .ok (.aload_n 0, 1) := by decide +kernel
theorem dX4_layPrime_2 : decode cX4_layPrime 2 = .ok (.getfield 7, 3) := by decide +kernel
theorem dX4_layPrime_5 : decode cX4_layPrime 5 = .ok (.iconst 0, 1) := by decide +kernel
theorem dX4_layPrime_6 : decode cX4_layPrime 6 = .ok (.iaload, 1) := by decide +kernel
theorem dX4_layPrime_7 : decode cX4_layPrime 7 = .ok (.iconst 1, 1) := by decide +kernel
theorem dX4_layPrime_8 : decode cX4_layPrime 8 = .ok (.iadd, 1) := by decide +kernel
theorem dX4_layPrime_9 : decode cX4_layPrime 9 = .ok (.putfield 35, 3) := by decide +kernel
theorem dX4_layPrime_12 : decode cX4_layPrime 12 = .ok (.aload_n 0, 1) := by decide +kernel
theorem dX4_layPrime_13 : decode cX4_layPrime 13 = .ok (.getfield 35, 3) := by decide +kernel
theorem dX4_layPrime_16 : decode cX4_layPrime 16 = .ok (.invokestatic 39, 3) := by decide +kernel
theorem dX4_layPrime_19 : decode cX4_layPrime 19 = .ok (.ifCond .ne 16, 3) := by decide +kernel
theorem dX4_layPrime_22 : decode cX4_layPrime 22 = .ok (.aload_n 0, 1) := by decide +kernel
theorem dX4_layPrime_23 : decode cX4_layPrime 23 = .ok (.dup, 1) := by decide +kernel
theorem dX4_layPrime_24 : decode cX4_layPrime 24 = .ok (.getfield 35, 3) := by decide +kernel
theorem dX4_layPrime_27 : decode cX4_layPrime 27 = .ok (.iconst 1, 1) := by decide +kernel
theorem dX4_layPrime_28 : decode cX4_layPrime 28 = .ok (.iadd, 1) := by decide +kernel
theorem dX4_layPrime_29 : decode cX4_layPrime 29 = .ok (.putfield 35, 3) := by decide +kernel
theorem dX4_layPrime_32 : decode cX4_layPrime 32 = .ok (.goto (-20), 3) := by decide +kernel
theorem dX4_layPrime_35 : decode cX4_layPrime 35 = .ok (.return_, 1) := by decide +kernel
theorem dX4_isPrime_0 : decode cX4_isPrime 0 = .ok (.iconst 1, 1) := by decide +kernel
theorem dX4_isPrime_1 : decode cX4_isPrime 1 = .ok (.istore_n 1, 1) := by decide +kernel
theorem dX4_isPrime_2 : decode cX4_isPrime 2 = .ok (.iconst 2, 1) := by decide +kernel
theorem dX4_isPrime_3 : decode cX4_isPrime 3 = .ok (.istore_n 2, 1) := by decide +kernel
theorem dX4_isPrime_4 : decode cX4_isPrime 4 = .ok (.iload_n 2, 1) := by decide +kernel
theorem dX4_isPrime_5 : decode cX4_isPrime 5 = .ok (.iload_n 0, 1) := by decide +kernel
theorem dX4_isPrime_6 : decode cX4_isPrime 6 = .ok (.if_icmp .ge 25, 3) := by decide +kernel
theorem dX4_isPrime_9 : decode cX4_isPrime 9 = .ok (.iload_n 1, 1) := by decide +kernel
theorem dX4_isPrime_10 : decode cX4_isPrime 10 = .ok (.ifCond .eq 13, 3) := by decide +kernel
theorem dX4_isPrime_13 : decode cX4_isPrime 13 = .ok (.iload_n 0, 1) := by decide +kernel
theorem dX4_isPrime_14 : decode cX4_isPrime 14 = .ok (.iload_n 2, 1) := by decide +kernel
theorem dX4_isPrime_15 : decode cX4_isPrime 15 = .ok (.irem, 1) := by decide +kernel
theorem dX4_isPrime_16 : decode cX4_isPrime 16 = .ok (.ifCond .eq 7, 3) := by decide +kernel
theorem dX4_isPrime_19 : decode cX4_isPrime 19 = .ok (.iconst 1, 1) := by decide +kernel
theorem dX4_isPrime_20 : decode cX4_isPrime 20 = .ok (.goto 4, 3) := by decide +kernel
theorem dX4_isPrime_23 : decode cX4_isPrime 23 = .ok (.iconst 0, 1) := by decide +kernel
theorem dX4_isPrime_24 : decode cX4_isPrime 24 = .ok (.istore_n 1, 1) := by decide +kernel
theorem dX4_isPrime_25 : decode cX4_isPrime 25 = .ok (.iinc 2 1, 3) := by decide +kernel
theorem dX4_isPrime_28 : decode cX4_isPrime 28 = .ok (.goto (-24), 3) := by decide +kernel
theorem dX4_isPrime_31 : decode cX4_isPrime 31 = .ok (.iload_n 1, 1) := by decide +kernel
theorem dX4_isPrime_32 : decode cX4_isPrime 32 = .ok (.ireturn, 1) := by decide +kernel
set_option maxRecDepth 20000 in
theorem ggX4_isUser_X4_in : GoodIn wsX4_isUser wsX4_in := goodIn_r _ [5] (by decide +kernel) (by decide +kernel)
set_option maxRecDepth 20000 in
theorem gX4_isUser_X4_in : GoodIn wsX4_isUser (va_wsS RX4 43 yX4_in wsX4_in) := goodIn_app (goodIn_of _ (by decide +kernel)) ggX4_isUser_X4_in
theorem dX4_isUser_0 : decode cX4_isUser 0 = .ok (.iload_n 1, 1) := by decide +kernel
theorem dX4_isUser_1 : decode cX4_isUser 1 = .ok (.iconst 0, 1) := by decide +kernel
theorem dX4_isUser_2 : decode cX4_isUser 2 = .ok (.aload_n 0, 1) := by decide +kernel
theorem dX4_isUser_3 : decode cX4_isUser 3 = .ok (.getfield 7, 3) := by decide +kernel
theorem dX4_isUser_6 : decode cX4_isUser 6 = .ok (.iconst 1, 1) := by decide +kernel
theorem dX4_isUser_7 : decode cX4_isUser 7 = .ok (.iaload, 1) := by decide +kernel
theorem dX4_isUser_8 : decode cX4_isUser 8 = .ok (.iconst 1, 1) := by decide +kernel
theorem dX4_isUser_9 : decode cX4_isUser 9 = .ok (.isub, 1) := by decide +kernel
theorem dX4_isUser_10 : decode cX4_isUser 10 = .ok (.invokestatic 43, 3) := by decide +kernel
theorem dX4_isUser_13 : decode cX4_isUser 13 = .ok (.ireturn, 1) := by decide +kernel
set_option maxRecDepth 20000 in
theorem ggX4_areTwo_X4_isUser : GoodIn wsX4_areTwo wsX4_isUser := goodIn_r _ [5, 6, 7, 8, 4, 9, 10, 11, 12, 13, 14, 15, 16, 17, 18, 19] (by decide +kernel) (by decide +kernel)
set_option maxRecDepth 20000 in
theorem gX4_areTwo_X4_isUser : GoodIn wsX4_areTwo (wsV RX4 47 RX4 yX4_isUser wsX4_isUser) := goodIn_app (goodIn_of _ (by decide +kernel)) ggX4_areTwo_X4_isUser
theorem dX4_areTwo_0 : decode cX4_areTwo 0 = .ok (.aload_n 0, 1) := by decide +kernel
theorem dX4_areTwo_1 : decode cX4_areTwo 1 = .ok (.iload_n 1, 1) := by decide +kernel
theorem dX4_areTwo_2 : decode cX4_areTwo 2 = .ok (.invokevirtual 47, 3) := by decide +kernel
theorem dX4_areTwo_5 : decode cX4_areTwo 5 = .ok (.ifCond .eq 20, 3) := by decide +kernel
theorem dX4_areTwo_8 : decode cX4_areTwo 8 = .ok (.aload_n 0, 1) := by decide +kernel
theorem dX4_areTwo_9 : decode cX4_areTwo 9 = .ok (.iload_n 2, 1) := by decide +kernel
theorem dX4_areTwo_10 : decode cX4_areTwo 10 = .ok (.invokevirtual 47, 3) := by decide +kernel
theorem dX4_areTwo_13 : decode cX4_areTwo 13 = .ok (.ifCond .eq 12, 3) := by decide +kernel
theorem dX4_areTwo_16 : decode cX4_areTwo 16 = .ok (.iload_n 1, 1) := by decide +kernel
theorem dX4_areTwo_17 : decode cX4_areTwo 17 = .ok (.iload_n 2, 1) := by decide +kernel
theorem dX4_areTwo_18 : decode cX4_areTwo 18 = .ok (.if_icmp .eq 7, 3) := by decide +kernel
theorem dX4_areTwo_21 : decode cX4_areTwo 21 = .ok (.iconst 1, 1) := by decide +kernel
theorem dX4_areTwo_22 : decode cX4_areTwo 22 = .ok (.goto 4, 3) := by decide +kernel
theorem dX4_areTwo_25 : decode cX4_areTwo 25 = .ok (.iconst 0, 1) := by decide +kernel
theorem dX4_areTwo_26 : decode cX4_areTwo 26 = .ok (.ireturn, 1) := by decide +kernel
theorem dX4_of_0 : decode cX4_of 0 = .ok (.aload_n 0, 1) := by decide +kernel
theorem dX4_of_1 : decode cX4_of 1 = .ok (.getfield 7, 3) := by decide +kernel
theorem dX4_of_4 : decode cX4_of 4 = .ok (.iconst 3, 1) := by decide +kernel
theorem dX4_of_5 : decode cX4_of 5 = .ok (.iconst 5, 1) := by decide +kernel
theorem dX4_of_6 : decode cX4_of 6 = .ok (.iload_n 1, 1) := by decide +kernel
theorem dX4_of_7 : decode cX4_of 7 = .ok (.imul, 1) := by decide +kernel
theorem dX4_of_8 : decode cX4_of 8 = .ok (.iadd, 1) := by decide +kernel
theorem dX4_of_9 : decode cX4_of 9 = .ok (.iload_n 2, 1) := by decide +kernel
theorem dX4_of_10 : decode cX4_of 10 = .ok (.iadd, 1) := by decide +kernel
theorem dX4_of_11 : decode cX4_of 11 = .ok (.iaload, 1) := by decide +kernel
theorem dX4_of_12 : decode cX4_of 12 = .ok (.ireturn, 1) := by decide +kernel
set_option maxRecDepth 20000 in
theorem ggX4_points_X4_of : GoodIn wsX4_points wsX4_of := goodIn_r _ [7, 1, 8, 9, 10, 11, 12, 13, 14, 15, 16, 17] (by decide +kernel) (by decide +kernel)
set_option maxRecDepth 20000 in
theorem gX4_points_X4_of : GoodIn wsX4_points (wsV RX4 50 RX4 yX4_of wsX4_of) := goodIn_app (goodIn_of _ (by decide +kernel)) ggX4_points_X4_of
theorem dX4_points_0 : decode cX4_points 0 = .ok (.aload_n 0, 1) := by decide +kernel
theorem dX4_points_1 : decode cX4_points 1 = .ok (.getfield 7, 3) := by decide +kernel
theorem dX4_points_4 : decode cX4_points 4 = .ok (.iconst 0, 1) := by decide +kernel
theorem dX4_points_5 : decode cX4_points 5 = .ok (.iaload, 1) := by decide +kernel
theorem dX4_points_6 : decode cX4_points 6 = .ok (.istore_n 3, 1) := by decide +kernel
theorem dX4_points_7 : decode cX4_points 7 = .ok (.aload_n 0, 1) := by decide +kernel
theorem dX4_points_8 : decode cX4_points 8 = .ok (.getfield 35, 3) := by decide +kernel
theorem dX4_points_11 : decode cX4_points 11 = .ok (.istore 4, 2) := by decide +kernel
theorem dX4_points_13 : decode cX4_points 13 = .ok (.aload_n 0, 1) := by decide +kernel
theorem dX4_points_14 : decode cX4_points 14 = .ok (.iload_n 1, 1) := by decide +kernel
theorem dX4_points_15 : decode cX4_points 15 = .ok (.iconst 1, 1) := by decide +kernel
theorem dX4_points_16 : decode cX4_points 16 = .ok (.invokevirtual 50, 3) := by decide +kernel
theorem dX4_points_19 : decode cX4_points 19 = .ok (.istore 5, 2) := by decide +kernel
theorem dX4_points_21 : decode cX4_points 21 = .ok (.iconst 1, 1) := by decide +kernel
theorem dX4_points_22 : decode cX4_points 22 = .ok (.aload_n 0, 1) := by decide +kernel
theorem dX4_points_23 : decode cX4_points 23 = .ok (.iload_n 1, 1) := by decide +kernel
theorem dX4_points_24 : decode cX4_points 24 = .ok (.iconst 2, 1) := by decide +kernel
theorem dX4_points_25 : decode cX4_points 25 = .ok (.invokevirtual 50, 3) := by decide +kernel
theorem dX4_points_28 : decode cX4_points 28 = .ok (.iload_n 3, 1) := by decide +kernel
theorem dX4_points_29 : decode cX4_points 29 = .ok (.irem, 1) := by decide +kernel
theorem dX4_points_30 : decode cX4_points 30 = .ok (.iadd, 1) := by decide +kernel
theorem dX4_points_31 : decode cX4_points 31 = .ok (.istore 6, 2) := by decide +kernel
theorem dX4_points_33 : decode cX4_points 33 = .ok (.aload_n 0, 1) := by decide +kernel
theorem dX4_points_34 : decode cX4_points 34 = .ok (.iload_n 1, 1) := by decide +kernel
theorem dX4_points_35 : decode cX4_points 35 = .ok (.iconst 0, 1) := by decide +kernel
theorem dX4_points_36 : decode cX4_points 36 = .ok (.invokevirtual 50, 3) := by decide +kernel
theorem dX4_points_39 : decode cX4_points 39 = .ok (.iconst 1, 1) := by decide +kernel
theorem dX4_points_40 : decode cX4_points 40 = .ok (.if_icmp .ne 10, 3) := by decide +kernel
theorem dX4_points_43 : decode cX4_points 43 = .ok (.iload 5, 2) := by decide +kernel
theorem dX4_points_45 : decode cX4_points 45 = .ok (.iload_n 2, 1) := by decide +kernel
theorem dX4_points_46 : decode cX4_points 46 = .ok (.iadd, 1) := by decide +kernel
theorem dX4_points_47 : decode cX4_points 47 = .ok (.iload_n 3, 1) := by decide +kernel
theorem dX4_points_48 : decode cX4_points 48 = .ok (.irem, 1) := by decide +kernel
theorem dX4_points_49 : decode cX4_points 49 = .ok (.ireturn, 1) := by decide +kernel
theorem dX4_points_50 : decode cX4_points 50 = .ok (.aload_n 0, 1) := by decide +kernel
theorem dX4_points_51 : decode cX4_points 51 = .ok (.iload_n 1, 1) := by decide +kernel
theorem dX4_points_52 : decode cX4_points 52 = .ok (.iconst 0, 1) := by decide +kernel
theorem dX4_points_53 : decode cX4_points 53 = .ok (.invokevirtual 50, 3) := by decide +kernel
theorem dX4_points_56 : decode cX4_points 56 = .ok (.iconst 2, 1) := by decide +kernel
theorem dX4_points_57 : decode cX4_points 57 = .ok (.if_icmp .ne 8, 3) := by decide +kernel
theorem dX4_points_60 : decode cX4_points 60 = .ok (.iload 5, 2) := by decide +kernel
theorem dX4_points_62 : decode cX4_points 62 = .ok (.iload_n 3, 1) := by decide +kernel
theorem dX4_points_63 : decode cX4_points 63 = .ok (.irem, 1) := by decide +kernel
theorem dX4_points_64 : decode cX4_points 64 = .ok (.ireturn, 1) := by decide +kernel
theorem dX4_points_65 : decode cX4_points 65 = .ok (.aload_n 0, 1) := by decide +kernel
theorem dX4_points_66 : decode cX4_points 66 = .ok (.iload_n 1, 1) := by decide +kernel
theorem dX4_points_67 : decode cX4_points 67 = .ok (.iconst 0, 1) := by decide +kernel
theorem dX4_points_68 : decode cX4_points 68 = .ok (.invokevirtual 50, 3) := by decide +kernel
theorem dX4_points_71 : decode cX4_points 71 = .ok (.iconst 3, 1) := by decide +kernel
theorem dX4_points_72 : decode cX4_points 72 = .ok (.if_icmp .ne 16, 3) := by decide +kernel
theorem dX4_points_75 : decode cX4_points 75 = .ok (.iload 5, 2) := by decide +kernel
theorem dX4_points_77 : decode cX4_points 77 = .ok (.iload_n 2, 1) := by decide +kernel
theorem dX4_points_78 : decode cX4_points 78 = .ok (.iload 6, 2) := by decide +kernel
theorem dX4_points_80 : decode cX4_points 80 = .ok (.imul, 1) := by decide +kernel
theorem dX4_points_81 : decode cX4_points 81 = .ok (.iadd, 1) := by decide +kernel
theorem dX4_points_82 : decode cX4_points 82 = .ok (.iload 4, 2) := by decide +kernel
theorem dX4_points_84 : decode cX4_points 84 = .ok (.irem, 1) := by decide +kernel
theorem dX4_points_85 : decode cX4_points 85 = .ok (.iload_n 3, 1) := by decide +kernel
theorem dX4_points_86 : decode cX4_points 86 = .ok (.irem, 1) := by decide +kernel
theorem dX4_points_87 : decode cX4_points 87 = .ok (.ireturn, 1) := by decide +kernel
theorem dX4_points_88 : decode cX4_points 88 = .ok (.iload_n 2, 1) := by decide +kernel
theorem dX4_points_89 : decode cX4_points 89 = .ok (.iconst 3, 1) := by decide +kernel
theorem dX4_points_90 : decode cX4_points 90 = .ok (.iload 4, 2) := by decide +kernel
theorem dX4_points_92 : decode cX4_points 92 = .ok (.imul, 1) := by decide +kernel
theorem dX4_points_93 : decode cX4_points 93 = .ok (.idiv, 1) := by decide +kernel
theorem dX4_points_94 : decode cX4_points 94 = .ok (.istore 7, 2) := by decide +kernel
theorem dX4_points_96 : decode cX4_points 96 = .ok (.iload_n 2, 1) := by decide +kernel
theorem dX4_points_97 : decode cX4_points 97 = .ok (.iconst 3, 1) := by decide +kernel
theorem dX4_points_98 : decode cX4_points 98 = .ok (.iload 4, 2) := by decide +kernel
theorem dX4_points_100 : decode cX4_points 100 = .ok (.imul, 1) := by decide +kernel
theorem dX4_points_101 : decode cX4_points 101 = .ok (.irem, 1) := by decide +kernel
theorem dX4_points_102 : decode cX4_points 102 = .ok (.istore 8, 2) := by decide +kernel
theorem dX4_points_104 : decode cX4_points 104 = .ok (.iload 6, 2) := by decide +kernel
theorem dX4_points_106 : decode cX4_points 106 = .ok (.iconst 1, 1) := by decide +kernel
theorem dX4_points_107 : decode cX4_points 107 = .ok (.isub, 1) := by decide +kernel
theorem dX4_points_108 : decode cX4_points 108 = .ok (.iload 7, 2) := by decide +kernel
theorem dX4_points_110 : decode cX4_points 110 = .ok (.iload 4, 2) := by decide +kernel
theorem dX4_points_112 : decode cX4_points 112 = .ok (.idiv, 1) := by decide +kernel
theorem dX4_points_113 : decode cX4_points 113 = .ok (.iadd, 1) := by decide +kernel
theorem dX4_points_114 : decode cX4_points 114 = .ok (.iload_n 3, 1) := by decide +kernel
theorem dX4_points_115 : decode cX4_points 115 = .ok (.irem, 1) := by decide +kernel
theorem dX4_points_116 : decode cX4_points 116 = .ok (.iconst 1, 1) := by decide +kernel
theorem dX4_points_117 : decode cX4_points 117 = .ok (.iadd, 1) := by decide +kernel
theorem dX4_points_118 : decode cX4_points 118 = .ok (.istore 9, 2) := by decide +kernel
theorem dX4_points_120 : decode cX4_points 120 = .ok (.iload 8, 2) := by decide +kernel
theorem dX4_points_122 : decode cX4_points 122 = .ok (.iconst 2, 1) := by decide +kernel
theorem dX4_points_123 : decode cX4_points 123 = .ok (.iload 4, 2) := by decide +kernel
theorem dX4_points_125 : decode cX4_points 125 = .ok (.imul, 1) := by decide +kernel
theorem dX4_points_126 : decode cX4_points 126 = .ok (.if_icmp .ge 20, 3) := by decide +kernel
theorem dX4_points_129 : decode cX4_points 129 = .ok (.iload 5, 2) := by decide +kernel
theorem dX4_points_131 : decode cX4_points 131 = .ok (.iload 7, 2) := by decide +kernel
theorem dX4_points_133 : decode cX4_points 133 = .ok (.iadd, 1) := by decide +kernel
theorem dX4_points_134 : decode cX4_points 134 = .ok (.iload 8, 2) := by decide +kernel
theorem dX4_points_136 : decode cX4_points 136 = .ok (.iload 9, 2) := by decide +kernel
theorem dX4_points_138 : decode cX4_points 138 = .ok (.imul, 1) := by decide +kernel
theorem dX4_points_139 : decode cX4_points 139 = .ok (.iadd, 1) := by decide +kernel
theorem dX4_points_140 : decode cX4_points 140 = .ok (.iload 4, 2) := by decide +kernel
theorem dX4_points_142 : decode cX4_points 142 = .ok (.irem, 1) := by decide +kernel
theorem dX4_points_143 : decode cX4_points 143 = .ok (.goto 5, 3) := by decide +kernel
theorem dX4_points_146 : decode cX4_points 146 = .ok (.iload 9, 2) := by decide +kernel
theorem dX4_points_148 : decode cX4_points 148 = .ok (.iload_n 3, 1) := by decide +kernel
theorem dX4_points_149 : decode cX4_points 149 = .ok (.irem, 1) := by decide +kernel
theorem dX4_points_150 : decode cX4_points 150 = .ok (.ireturn, 1) := by decide +kernel
theorem dX4_ones_0 : decode cX4_ones 0 = .ok (.iconst 0, 1) := by decide +kernel
theorem dX4_ones_1 : decode cX4_ones 1 = .ok (.istore_n 1, 1) := by decide +kernel
theorem dX4_ones_2 : decode cX4_ones 2 = .ok (.iconst 0, 1) := by decide +kernel
theorem dX4_ones_3 : decode cX4_ones 3 = .ok (.istore_n 2, 1) := by decide +kernel
theorem dX4_ones_4 : decode cX4_ones 4 = .ok (.iload_n 2, 1) := by decide +kernel
theorem dX4_ones_5 : decode cX4_ones 5 = .ok (.bipush 10, 2) := by decide +kernel
theorem dX4_ones_7 : decode cX4_ones 7 = .ok (.if_icmp .ge 17, 3) := by decide +kernel
theorem dX4_ones_10 : decode cX4_ones 10 = .ok (.iload_n 1, 1) := by decide +kernel
theorem dX4_ones_11 : decode cX4_ones 11 = .ok (.iload_n 0, 1) := by decide +kernel
theorem dX4_ones_12 : decode cX4_ones 12 = .ok (.iload_n 2, 1) := by decide +kernel
theorem dX4_ones_13 : decode cX4_ones 13 = .ok (.ishr, 1) := by decide +kernel
theorem dX4_ones_14 : decode cX4_ones 14 = .ok (.iconst 1, 1) := by decide +kernel
theorem dX4_ones_15 : decode cX4_ones 15 = .ok (.iand, 1) := by decide +kernel
theorem dX4_ones_16 : decode cX4_ones 16 = .ok (.iadd, 1) := by decide +kernel
theorem dX4_ones_17 : decode cX4_ones 17 = .ok (.istore_n 1, 1) := by decide +kernel
theorem dX4_ones_18 : decode cX4_ones 18 = .ok (.iinc 2 1, 3) := by decide +kernel
theorem dX4_ones_21 : decode cX4_ones 21 = .ok (.goto (-17), 3) := by decide +kernel
theorem dX4_ones_24 : decode cX4_ones 24 = .ok (.iload_n 1, 1) := by decide +kernel
theorem dX4_ones_25 : decode cX4_ones 25 = .ok (.ireturn, 1) := by decide +kernel
set_option maxRecDepth 20000 in
theorem ggX4_lands_X4_of : GoodIn wsX4_lands wsX4_of := goodIn_r _ [5, 6, 15, 16, 17, 18, 19, 20, 21, 22, 23, 24] (by decide +kernel) (by decide +kernel)
set_option maxRecDepth 20000 in
theorem gX4_lands_X4_of : GoodIn wsX4_lands (wsV RX4 50 RX4 yX4_of wsX4_of) := goodIn_app (goodIn_of _ (by decide +kernel)) ggX4_lands_X4_of
set_option maxRecDepth 20000 in
theorem ggX4_lands_X4_points : GoodIn wsX4_lands wsX4_points := goodIn_r _ [10, 6, 11, 1, 2, 3, 4, 5, 15, 16, 17, 18, 19, 20, 21, 22, 23, 24] (by decide +kernel) (by decide +kernel)
set_option maxRecDepth 20000 in
theorem gX4_lands_X4_points : GoodIn wsX4_lands (wsV RX4 54 RX4 yX4_points wsX4_points) := goodIn_app (goodIn_of _ (by decide +kernel)) ggX4_lands_X4_points
set_option maxRecDepth 20000 in
theorem ggX4_lands_X4_ones : GoodIn wsX4_lands wsX4_ones := goodIn_r _ [14] (by decide +kernel) (by decide +kernel)
set_option maxRecDepth 20000 in
theorem gX4_lands_X4_ones : GoodIn wsX4_lands (va_wsS RX4 57 yX4_ones wsX4_ones) := goodIn_app (goodIn_of _ (by decide +kernel)) ggX4_lands_X4_ones
theorem dX4_lands_0 : decode cX4_lands 0 = .ok (.aload_n 0, 1) := by decide +kernel
theorem dX4_lands_1 : decode cX4_lands 1 = .ok (.iload_n 1, 1) := by decide +kernel
theorem dX4_lands_2 : decode cX4_lands 2 = .ok (.iconst 4, 1) := by decide +kernel
theorem dX4_lands_3 : decode cX4_lands 3 = .ok (.invokevirtual 50, 3) := by decide +kernel
theorem dX4_lands_6 : decode cX4_lands 6 = .ok (.istore_n 3, 1) := by decide +kernel
theorem dX4_lands_7 : decode cX4_lands 7 = .ok (.aload_n 0, 1) := by decide +kernel
theorem dX4_lands_8 : decode cX4_lands 8 = .ok (.iload_n 1, 1) := by decide +kernel
theorem dX4_lands_9 : decode cX4_lands 9 = .ok (.iload_n 2, 1) := by decide +kernel
theorem dX4_lands_10 : decode cX4_lands 10 = .ok (.invokevirtual 54, 3) := by decide +kernel
theorem dX4_lands_13 : decode cX4_lands 13 = .ok (.istore 4, 2) := by decide +kernel
theorem dX4_lands_15 : decode cX4_lands 15 = .ok (.iload_n 3, 1) := by decide +kernel
theorem dX4_lands_16 : decode cX4_lands 16 = .ok (.ifCond .eq 13, 3) := by decide +kernel
theorem dX4_lands_19 : decode cX4_lands 19 = .ok (.iload_n 3, 1) := by decide +kernel
theorem dX4_lands_20 : decode cX4_lands 20 = .ok (.iload 4, 2) := by decide +kernel
theorem dX4_lands_22 : decode cX4_lands 22 = .ok (.ishr, 1) := by decide +kernel
theorem dX4_lands_23 : decode cX4_lands 23 = .ok (.iconst 1, 1) := by decide +kernel
theorem dX4_lands_24 : decode cX4_lands 24 = .ok (.iand, 1) := by decide +kernel
theorem dX4_lands_25 : decode cX4_lands 25 = .ok (.iconst 1, 1) := by decide +kernel
theorem dX4_lands_26 : decode cX4_lands 26 = .ok (.if_icmp .ne 14, 3) := by decide +kernel
theorem dX4_lands_29 : decode cX4_lands 29 = .ok (.iload_n 3, 1) := by decide +kernel
theorem dX4_lands_30 : decode cX4_lands 30 = .ok (.ifCond .ne 7, 3) := by decide +kernel
theorem dX4_lands_33 : decode cX4_lands 33 = .ok (.iconst (-1), 1) := by decide +kernel
theorem dX4_lands_34 : decode cX4_lands 34 = .ok (.goto 5, 3) := by decide +kernel
theorem dX4_lands_37 : decode cX4_lands 37 = .ok (.iload 4, 2) := by decide +kernel
theorem dX4_lands_39 : decode cX4_lands 39 = .ok (.ireturn, 1) := by decide +kernel
theorem dX4_lands_40 : decode cX4_lands 40 = .ok (.iload 4, 2) := by decide +kernel
theorem dX4_lands_42 : decode cX4_lands 42 = .ok (.iload_n 3, 1) := by decide +kernel
theorem dX4_lands_43 : decode cX4_lands 43 = .ok (.invokestatic 57, 3) := by decide +kernel
theorem dX4_lands_46 : decode cX4_lands 46 = .ok (.irem, 1) := by decide +kernel
theorem dX4_lands_47 : decode cX4_lands 47 = .ok (.istore 5, 2) := by decide +kernel
theorem dX4_lands_49 : decode cX4_lands 49 = .ok (.iconst 0, 1) := by decide +kernel
theorem dX4_lands_50 : decode cX4_lands 50 = .ok (.istore 6, 2) := by decide +kernel
theorem dX4_lands_52 : decode cX4_lands 52 = .ok (.iload_n 3, 1) := by decide +kernel
theorem dX4_lands_53 : decode cX4_lands 53 = .ok (.iload 6, 2) := by decide +kernel
theorem dX4_lands_55 : decode cX4_lands 55 = .ok (.ishr, 1) := by decide +kernel
theorem dX4_lands_56 : decode cX4_lands 56 = .ok (.iconst 1, 1) := by decide +kernel
theorem dX4_lands_57 : decode cX4_lands 57 = .ok (.iand, 1) := by decide +kernel
theorem dX4_lands_58 : decode cX4_lands 58 = .ok (.ifCond .eq 8, 3) := by decide +kernel
theorem dX4_lands_61 : decode cX4_lands 61 = .ok (.iload 5, 2) := by decide +kernel
theorem dX4_lands_63 : decode cX4_lands 63 = .ok (.ifCond .le 20, 3) := by decide +kernel
theorem dX4_lands_66 : decode cX4_lands 66 = .ok (.iload 5, 2) := by decide +kernel
theorem dX4_lands_68 : decode cX4_lands 68 = .ok (.iload_n 3, 1) := by decide +kernel
theorem dX4_lands_69 : decode cX4_lands 69 = .ok (.iload 6, 2) := by decide +kernel
theorem dX4_lands_71 : decode cX4_lands 71 = .ok (.ishr, 1) := by decide +kernel
theorem dX4_lands_72 : decode cX4_lands 72 = .ok (.iconst 1, 1) := by decide +kernel
theorem dX4_lands_73 : decode cX4_lands 73 = .ok (.iand, 1) := by decide +kernel
theorem dX4_lands_74 : decode cX4_lands 74 = .ok (.isub, 1) := by decide +kernel
theorem dX4_lands_75 : decode cX4_lands 75 = .ok (.istore 5, 2) := by decide +kernel
theorem dX4_lands_77 : decode cX4_lands 77 = .ok (.iinc 6 1, 3) := by decide +kernel
theorem dX4_lands_80 : decode cX4_lands 80 = .ok (.goto (-28), 3) := by decide +kernel
theorem dX4_lands_83 : decode cX4_lands 83 = .ok (.iload 6, 2) := by decide +kernel
theorem dX4_lands_85 : decode cX4_lands 85 = .ok (.ireturn, 1) := by decide +kernel
set_option maxRecDepth 20000 in
theorem ggX4_isShut_X4_in : GoodIn wsX4_isShut wsX4_in := goodIn_r _ [5] (by decide +kernel) (by decide +kernel)
set_option maxRecDepth 20000 in
theorem gX4_isShut_X4_in : GoodIn wsX4_isShut (va_wsS RX4 43 yX4_in wsX4_in) := goodIn_app (goodIn_of _ (by decide +kernel)) ggX4_isShut_X4_in
theorem dX4_isShut_0 : decode cX4_isShut 0 = .ok (.iconst 0, 1) := by decide +kernel
theorem dX4_isShut_1 : decode cX4_isShut 1 = .ok (.istore 4, 2) := by decide +kernel
theorem dX4_isShut_3 : decode cX4_isShut 3 = .ok (.iconst 0, 1) := by decide +kernel
theorem dX4_isShut_4 : decode cX4_isShut 4 = .ok (.istore 5, 2) := by decide +kernel
theorem dX4_isShut_6 : decode cX4_isShut 6 = .ok (.iload 5, 2) := by decide +kernel
theorem dX4_isShut_8 : decode cX4_isShut 8 = .ok (.aload_n 0, 1) := by decide +kernel
theorem dX4_isShut_9 : decode cX4_isShut 9 = .ok (.getfield 7, 3) := by decide +kernel
theorem dX4_isShut_12 : decode cX4_isShut 12 = .ok (.iconst 2, 1) := by decide +kernel
theorem dX4_isShut_13 : decode cX4_isShut 13 = .ok (.iaload, 1) := by decide +kernel
theorem dX4_isShut_14 : decode cX4_isShut 14 = .ok (.if_icmp .ge 114, 3) := by decide +kernel
theorem dX4_isShut_17 : decode cX4_isShut 17 = .ok (.bipush 28, 2) := by decide +kernel
theorem dX4_isShut_19 : decode cX4_isShut 19 = .ok (.iconst 4, 1) := by decide +kernel
theorem dX4_isShut_20 : decode cX4_isShut 20 = .ok (.iload 5, 2) := by decide +kernel
theorem dX4_isShut_22 : decode cX4_isShut 22 = .ok (.imul, 1) := by decide +kernel
theorem dX4_isShut_23 : decode cX4_isShut 23 = .ok (.iadd, 1) := by decide +kernel
theorem dX4_isShut_24 : decode cX4_isShut 24 = .ok (.istore 6, 2) := by decide +kernel
theorem dX4_isShut_26 : decode cX4_isShut 26 = .ok (.aload_n 0, 1) := by decide +kernel
theorem dX4_isShut_27 : decode cX4_isShut 27 = .ok (.getfield 7, 3) := by decide +kernel
theorem dX4_isShut_30 : decode cX4_isShut 30 = .ok (.iload 6, 2) := by decide +kernel
theorem dX4_isShut_32 : decode cX4_isShut 32 = .ok (.iaload, 1) := by decide +kernel
theorem dX4_isShut_33 : decode cX4_isShut 33 = .ok (.iconst (-1), 1) := by decide +kernel
theorem dX4_isShut_34 : decode cX4_isShut 34 = .ok (.if_icmp .eq 14, 3) := by decide +kernel
theorem dX4_isShut_37 : decode cX4_isShut 37 = .ok (.aload_n 0, 1) := by decide +kernel
theorem dX4_isShut_38 : decode cX4_isShut 38 = .ok (.getfield 7, 3) := by decide +kernel
theorem dX4_isShut_41 : decode cX4_isShut 41 = .ok (.iload 6, 2) := by decide +kernel
theorem dX4_isShut_43 : decode cX4_isShut 43 = .ok (.iaload, 1) := by decide +kernel
theorem dX4_isShut_44 : decode cX4_isShut 44 = .ok (.iload_n 1, 1) := by decide +kernel
theorem dX4_isShut_45 : decode cX4_isShut 45 = .ok (.if_icmp .ne 7, 3) := by decide +kernel
theorem dX4_isShut_48 : decode cX4_isShut 48 = .ok (.iconst 1, 1) := by decide +kernel
theorem dX4_isShut_49 : decode cX4_isShut 49 = .ok (.goto 4, 3) := by decide +kernel
theorem dX4_isShut_52 : decode cX4_isShut 52 = .ok (.iconst 0, 1) := by decide +kernel
theorem dX4_isShut_53 : decode cX4_isShut 53 = .ok (.istore 7, 2) := by decide +kernel
theorem dX4_isShut_55 : decode cX4_isShut 55 = .ok (.iload 4, 2) := by decide +kernel
theorem dX4_isShut_57 : decode cX4_isShut 57 = .ok (.ifCond .ne 58, 3) := by decide +kernel
theorem dX4_isShut_60 : decode cX4_isShut 60 = .ok (.iload 7, 2) := by decide +kernel
theorem dX4_isShut_62 : decode cX4_isShut 62 = .ok (.ifCond .eq 57, 3) := by decide +kernel
theorem dX4_isShut_65 : decode cX4_isShut 65 = .ok (.aload_n 0, 1) := by decide +kernel
theorem dX4_isShut_66 : decode cX4_isShut 66 = .ok (.getfield 7, 3) := by decide +kernel
theorem dX4_isShut_69 : decode cX4_isShut 69 = .ok (.iload 6, 2) := by decide +kernel
theorem dX4_isShut_71 : decode cX4_isShut 71 = .ok (.iconst 1, 1) := by decide +kernel
theorem dX4_isShut_72 : decode cX4_isShut 72 = .ok (.iadd, 1) := by decide +kernel
theorem dX4_isShut_73 : decode cX4_isShut 73 = .ok (.iaload, 1) := by decide +kernel
theorem dX4_isShut_74 : decode cX4_isShut 74 = .ok (.iload_n 2, 1) := by decide +kernel
theorem dX4_isShut_75 : decode cX4_isShut 75 = .ok (.if_icmp .ne 44, 3) := by decide +kernel
theorem dX4_isShut_78 : decode cX4_isShut 78 = .ok (.iload_n 3, 1) := by decide +kernel
theorem dX4_isShut_79 : decode cX4_isShut 79 = .ok (.aload_n 0, 1) := by decide +kernel
theorem dX4_isShut_80 : decode cX4_isShut 80 = .ok (.getfield 7, 3) := by decide +kernel
theorem dX4_isShut_83 : decode cX4_isShut 83 = .ok (.iload 6, 2) := by decide +kernel
theorem dX4_isShut_85 : decode cX4_isShut 85 = .ok (.iconst 2, 1) := by decide +kernel
theorem dX4_isShut_86 : decode cX4_isShut 86 = .ok (.iadd, 1) := by decide +kernel
theorem dX4_isShut_87 : decode cX4_isShut 87 = .ok (.iaload, 1) := by decide +kernel
theorem dX4_isShut_88 : decode cX4_isShut 88 = .ok (.aload_n 0, 1) := by decide +kernel
theorem dX4_isShut_89 : decode cX4_isShut 89 = .ok (.getfield 7, 3) := by decide +kernel
theorem dX4_isShut_92 : decode cX4_isShut 92 = .ok (.iload 6, 2) := by decide +kernel
theorem dX4_isShut_94 : decode cX4_isShut 94 = .ok (.iconst 2, 1) := by decide +kernel
theorem dX4_isShut_95 : decode cX4_isShut 95 = .ok (.iadd, 1) := by decide +kernel
theorem dX4_isShut_96 : decode cX4_isShut 96 = .ok (.iaload, 1) := by decide +kernel
theorem dX4_isShut_97 : decode cX4_isShut 97 = .ok (.aload_n 0, 1) := by decide +kernel
theorem dX4_isShut_98 : decode cX4_isShut 98 = .ok (.getfield 7, 3) := by decide +kernel
theorem dX4_isShut_101 : decode cX4_isShut 101 = .ok (.iload 6, 2) := by decide +kernel
theorem dX4_isShut_103 : decode cX4_isShut 103 = .ok (.iconst 3, 1) := by decide +kernel
theorem dX4_isShut_104 : decode cX4_isShut 104 = .ok (.iadd, 1) := by decide +kernel
theorem dX4_isShut_105 : decode cX4_isShut 105 = .ok (.iaload, 1) := by decide +kernel
theorem dX4_isShut_106 : decode cX4_isShut 106 = .ok (.iadd, 1) := by decide +kernel
theorem dX4_isShut_107 : decode cX4_isShut 107 = .ok (.iconst 1, 1) := by decide +kernel
theorem dX4_isShut_108 : decode cX4_isShut 108 = .ok (.isub, 1) := by decide +kernel
theorem dX4_isShut_109 : decode cX4_isShut 109 = .ok (.invokestatic 43, 3) := by decide +kernel
theorem dX4_isShut_112 : decode cX4_isShut 112 = .ok (.ifCond .eq 7, 3) := by decide +kernel
theorem dX4_isShut_115 : decode cX4_isShut 115 = .ok (.iconst 1, 1) := by decide +kernel
theorem dX4_isShut_116 : decode cX4_isShut 116 = .ok (.goto 4, 3) := by decide +kernel
theorem dX4_isShut_119 : decode cX4_isShut 119 = .ok (.iconst 0, 1) := by decide +kernel
theorem dX4_isShut_120 : decode cX4_isShut 120 = .ok (.istore 4, 2) := by decide +kernel
theorem dX4_isShut_122 : decode cX4_isShut 122 = .ok (.iinc 5 1, 3) := by decide +kernel
theorem dX4_isShut_125 : decode cX4_isShut 125 = .ok (.goto (-119), 3) := by decide +kernel
theorem dX4_isShut_128 : decode cX4_isShut 128 = .ok (.iload 4, 2) := by decide +kernel
theorem dX4_isShut_130 : decode cX4_isShut 130 = .ok (.ireturn, 1) := by decide +kernel
set_option maxRecDepth 20000 in
theorem ggX4_whyNot_X4_of : GoodIn wsX4_whyNot wsX4_of := goodIn_r _ [5, 6, 26, 27, 28, 29, 30, 31, 32, 33, 34, 35] (by decide +kernel) (by decide +kernel)
set_option maxRecDepth 20000 in
theorem gX4_whyNot_X4_of : GoodIn wsX4_whyNot (wsV RX4 50 RX4 yX4_of wsX4_of) := goodIn_app (goodIn_of _ (by decide +kernel)) ggX4_whyNot_X4_of
set_option maxRecDepth 20000 in
theorem ggX4_whyNot_X4_lands : GoodIn wsX4_whyNot wsX4_lands := goodIn_r _ [10, 1, 2, 3, 4, 5, 6, 11, 12, 13, 14, 15, 16, 17, 18, 26, 27, 28, 29, 30, 31, 32, 33, 34, 35] (by decide +kernel) (by decide +kernel)
set_option maxRecDepth 20000 in
theorem gX4_whyNot_X4_lands : GoodIn wsX4_whyNot (wsV RX4 61 RX4 yX4_lands wsX4_lands) := goodIn_app (goodIn_of _ (by decide +kernel)) ggX4_whyNot_X4_lands
set_option maxRecDepth 20000 in
theorem ggX4_whyNot_X4_isShut : GoodIn wsX4_whyNot wsX4_isShut := goodIn_r _ [22, 6, 23, 24, 4, 25, 26, 27, 28, 29, 30, 31, 32, 33, 34, 35] (by decide +kernel) (by decide +kernel)
set_option maxRecDepth 20000 in
theorem gX4_whyNot_X4_isShut : GoodIn wsX4_whyNot (wsV RX4 64 RX4 yX4_isShut wsX4_isShut) := goodIn_app (goodIn_of _ (by decide +kernel)) ggX4_whyNot_X4_isShut
theorem dX4_whyNot_0 : decode cX4_whyNot 0 = .ok (.iload_n 2, 1) := by decide +kernel
theorem dX4_whyNot_1 : decode cX4_whyNot 1 = .ok (.aload_n 0, 1) := by decide +kernel
theorem dX4_whyNot_2 : decode cX4_whyNot 2 = .ok (.iload_n 1, 1) := by decide +kernel
theorem dX4_whyNot_3 : decode cX4_whyNot 3 = .ok (.iconst 3, 1) := by decide +kernel
theorem dX4_whyNot_4 : decode cX4_whyNot 4 = .ok (.invokevirtual 50, 3) := by decide +kernel
theorem dX4_whyNot_7 : decode cX4_whyNot 7 = .ok (.isub, 1) := by decide +kernel
theorem dX4_whyNot_8 : decode cX4_whyNot 8 = .ok (.istore_n 3, 1) := by decide +kernel
theorem dX4_whyNot_9 : decode cX4_whyNot 9 = .ok (.iload_n 3, 1) := by decide +kernel
theorem dX4_whyNot_10 : decode cX4_whyNot 10 = .ok (.ifCond .ge 5, 3) := by decide +kernel
theorem dX4_whyNot_13 : decode cX4_whyNot 13 = .ok (.iconst 1, 1) := by decide +kernel
theorem dX4_whyNot_14 : decode cX4_whyNot 14 = .ok (.ireturn, 1) := by decide +kernel
theorem dX4_whyNot_15 : decode cX4_whyNot 15 = .ok (.aload_n 0, 1) := by decide +kernel
theorem dX4_whyNot_16 : decode cX4_whyNot 16 = .ok (.iload_n 1, 1) := by decide +kernel
theorem dX4_whyNot_17 : decode cX4_whyNot 17 = .ok (.iconst 4, 1) := by decide +kernel
theorem dX4_whyNot_18 : decode cX4_whyNot 18 = .ok (.invokevirtual 50, 3) := by decide +kernel
theorem dX4_whyNot_21 : decode cX4_whyNot 21 = .ok (.ifCond .ne 7, 3) := by decide +kernel
theorem dX4_whyNot_24 : decode cX4_whyNot 24 = .ok (.iconst 2, 1) := by decide +kernel
theorem dX4_whyNot_25 : decode cX4_whyNot 25 = .ok (.goto 23, 3) := by decide +kernel
theorem dX4_whyNot_28 : decode cX4_whyNot 28 = .ok (.aload_n 0, 1) := by decide +kernel
theorem dX4_whyNot_29 : decode cX4_whyNot 29 = .ok (.iload_n 1, 1) := by decide +kernel
theorem dX4_whyNot_30 : decode cX4_whyNot 30 = .ok (.aload_n 0, 1) := by decide +kernel
theorem dX4_whyNot_31 : decode cX4_whyNot 31 = .ok (.iload_n 1, 1) := by decide +kernel
theorem dX4_whyNot_32 : decode cX4_whyNot 32 = .ok (.iload_n 3, 1) := by decide +kernel
theorem dX4_whyNot_33 : decode cX4_whyNot 33 = .ok (.invokevirtual 61, 3) := by decide +kernel
theorem dX4_whyNot_36 : decode cX4_whyNot 36 = .ok (.iload_n 2, 1) := by decide +kernel
theorem dX4_whyNot_37 : decode cX4_whyNot 37 = .ok (.invokevirtual 64, 3) := by decide +kernel
theorem dX4_whyNot_40 : decode cX4_whyNot 40 = .ok (.ifCond .eq 7, 3) := by decide +kernel
theorem dX4_whyNot_43 : decode cX4_whyNot 43 = .ok (.iconst 3, 1) := by decide +kernel
theorem dX4_whyNot_44 : decode cX4_whyNot 44 = .ok (.goto 4, 3) := by decide +kernel
theorem dX4_whyNot_47 : decode cX4_whyNot 47 = .ok (.iconst 0, 1) := by decide +kernel
theorem dX4_whyNot_48 : decode cX4_whyNot 48 = .ok (.ireturn, 1) := by decide +kernel
set_option maxRecDepth 20000 in
theorem ggX4_place_X4_whyNot : GoodIn wsX4_place wsX4_whyNot := goodIn_r _ [5, 6, 7, 8, 4, 9, 10, 11, 12, 13, 14, 15, 16, 17, 18, 19, 20, 21, 22, 23, 24, 25, 26, 27, 28, 29, 30, 31, 32, 33, 34, 35, 36, 37, 38, 39] (by decide +kernel) (by decide +kernel)
set_option maxRecDepth 20000 in
theorem gX4_place_X4_whyNot : GoodIn wsX4_place (wsV RX4 67 RX4 yX4_whyNot wsX4_whyNot) := goodIn_app (goodIn_of _ (by decide +kernel)) ggX4_place_X4_whyNot
set_option maxRecDepth 20000 in
theorem ggX4_place_X4_of : GoodIn wsX4_place wsX4_of := goodIn_r _ [9, 10, 30, 31, 32, 33, 34, 35, 36, 37, 38, 39] (by decide +kernel) (by decide +kernel)
set_option maxRecDepth 20000 in
theorem gX4_place_X4_of : GoodIn wsX4_place (wsV RX4 50 RX4 yX4_of wsX4_of) := goodIn_app (goodIn_of _ (by decide +kernel)) ggX4_place_X4_of
set_option maxRecDepth 20000 in
theorem ggX4_place_X4_lands : GoodIn wsX4_place wsX4_lands := goodIn_r _ [14, 6, 7, 8, 4, 9, 10, 15, 16, 17, 18, 19, 20, 21, 22, 30, 31, 32, 33, 34, 35, 36, 37, 38, 39] (by decide +kernel) (by decide +kernel)
set_option maxRecDepth 20000 in
theorem gX4_place_X4_lands : GoodIn wsX4_place (wsV RX4 61 RX4 yX4_lands wsX4_lands) := goodIn_app (goodIn_of _ (by decide +kernel)) ggX4_place_X4_lands
theorem dX4_place_0 : decode cX4_place 0 = .ok (.aload_n 0, 1) := by decide +kernel
theorem dX4_place_1 : decode cX4_place 1 = .ok (.iload_n 1, 1) := by decide +kernel
theorem dX4_place_2 : decode cX4_place 2 = .ok (.iload_n 2, 1) := by decide +kernel
theorem dX4_place_3 : decode cX4_place 3 = .ok (.invokevirtual 67, 3) := by decide +kernel
theorem dX4_place_6 : decode cX4_place 6 = .ok (.ifCond .ne 19, 3) := by decide +kernel
theorem dX4_place_9 : decode cX4_place 9 = .ok (.aload_n 0, 1) := by decide +kernel
theorem dX4_place_10 : decode cX4_place 10 = .ok (.iload_n 1, 1) := by decide +kernel
theorem dX4_place_11 : decode cX4_place 11 = .ok (.iload_n 2, 1) := by decide +kernel
theorem dX4_place_12 : decode cX4_place 12 = .ok (.aload_n 0, 1) := by decide +kernel
theorem dX4_place_13 : decode cX4_place 13 = .ok (.iload_n 1, 1) := by decide +kernel
theorem dX4_place_14 : decode cX4_place 14 = .ok (.iconst 3, 1) := by decide +kernel
theorem dX4_place_15 : decode cX4_place 15 = .ok (.invokevirtual 50, 3) := by decide +kernel
theorem dX4_place_18 : decode cX4_place 18 = .ok (.isub, 1) := by decide +kernel
theorem dX4_place_19 : decode cX4_place 19 = .ok (.invokevirtual 61, 3) := by decide +kernel
theorem dX4_place_22 : decode cX4_place 22 = .ok (.goto 4, 3) := by decide +kernel
theorem dX4_place_25 : decode cX4_place 25 = .ok (.iconst (-1), 1) := by decide +kernel
theorem dX4_place_26 : decode cX4_place 26 = .ok (.ireturn, 1) := by decide +kernel
set_option maxRecDepth 20000 in
theorem ggX4_isMet_X4_place : GoodIn wsX4_isMet wsX4_place := goodIn_r _ [5, 6, 7, 8, 4, 9, 10, 11, 12, 13, 14, 15, 16, 17, 18, 19, 20, 21, 22, 23, 24, 25, 26, 27, 28, 29, 30, 31, 32, 33, 34, 35, 36, 37, 38, 39, 40, 41, 42, 43] (by decide +kernel) (by decide +kernel)
set_option maxRecDepth 20000 in
theorem gX4_isMet_X4_place : GoodIn wsX4_isMet (wsV RX4 70 RX4 yX4_place wsX4_place) := goodIn_app (goodIn_of _ (by decide +kernel)) ggX4_isMet_X4_place
theorem dX4_isMet_0 : decode cX4_isMet 0 = .ok (.aload_n 0, 1) := by decide +kernel
theorem dX4_isMet_1 : decode cX4_isMet 1 = .ok (.iload_n 1, 1) := by decide +kernel
theorem dX4_isMet_2 : decode cX4_isMet 2 = .ok (.iload_n 3, 1) := by decide +kernel
theorem dX4_isMet_3 : decode cX4_isMet 3 = .ok (.invokevirtual 70, 3) := by decide +kernel
theorem dX4_isMet_6 : decode cX4_isMet 6 = .ok (.istore 4, 2) := by decide +kernel
theorem dX4_isMet_8 : decode cX4_isMet 8 = .ok (.iload 4, 2) := by decide +kernel
theorem dX4_isMet_10 : decode cX4_isMet 10 = .ok (.iconst (-1), 1) := by decide +kernel
theorem dX4_isMet_11 : decode cX4_isMet 11 = .ok (.if_icmp .eq 18, 3) := by decide +kernel
theorem dX4_isMet_14 : decode cX4_isMet 14 = .ok (.iload 4, 2) := by decide +kernel
theorem dX4_isMet_16 : decode cX4_isMet 16 = .ok (.aload_n 0, 1) := by decide +kernel
theorem dX4_isMet_17 : decode cX4_isMet 17 = .ok (.iload_n 2, 1) := by decide +kernel
theorem dX4_isMet_18 : decode cX4_isMet 18 = .ok (.iload_n 3, 1) := by decide +kernel
theorem dX4_isMet_19 : decode cX4_isMet 19 = .ok (.invokevirtual 70, 3) := by decide +kernel
theorem dX4_isMet_22 : decode cX4_isMet 22 = .ok (.if_icmp .ne 7, 3) := by decide +kernel
theorem dX4_isMet_25 : decode cX4_isMet 25 = .ok (.iconst 1, 1) := by decide +kernel
theorem dX4_isMet_26 : decode cX4_isMet 26 = .ok (.goto 4, 3) := by decide +kernel
theorem dX4_isMet_29 : decode cX4_isMet 29 = .ok (.iconst 0, 1) := by decide +kernel
theorem dX4_isMet_30 : decode cX4_isMet 30 = .ok (.ireturn, 1) := by decide +kernel
theorem dX4_anew_0 : decode cX4_anew 0 = .ok (.aload_n 0, 1) := by decide +kernel
theorem dX4_anew_1 : decode cX4_anew 1 = .ok (.iconst 0, 1) := by decide +kernel
theorem dX4_anew_2 : decode cX4_anew 2 = .ok (.putfield 73, 3) := by decide +kernel
theorem dX4_anew_5 : decode cX4_anew 5 = .ok (.iconst 0, 1) := by decide +kernel
theorem dX4_anew_6 : decode cX4_anew 6 = .ok (.istore_n 1, 1) := by decide +kernel
theorem dX4_anew_7 : decode cX4_anew 7 = .ok (.iload_n 1, 1) := by decide +kernel
theorem dX4_anew_8 : decode cX4_anew 8 = .ok (.iconst 5, 1) := by decide +kernel
theorem dX4_anew_9 : decode cX4_anew 9 = .ok (.if_icmp .ge 16, 3) := by decide +kernel
theorem dX4_anew_12 : decode cX4_anew 12 = .ok (.aload_n 0, 1) := by decide +kernel
theorem dX4_anew_13 : decode cX4_anew 13 = .ok (.getfield 23, 3) := by decide +kernel
theorem dX4_anew_16 : decode cX4_anew 16 = .ok (.iload_n 1, 1) := by decide +kernel
theorem dX4_anew_17 : decode cX4_anew 17 = .ok (.iload_n 1, 1) := by decide +kernel
theorem dX4_anew_18 : decode cX4_anew 18 = .ok (.iastore, 1) := by decide +kernel
theorem dX4_anew_19 : decode cX4_anew 19 = .ok (.iinc 1 1, 3) := by decide +kernel
theorem dX4_anew_22 : decode cX4_anew 22 = .ok (.goto (-15), 3) := by decide +kernel
theorem dX4_anew_25 : decode cX4_anew 25 = .ok (.return_, 1) := by decide +kernel
set_option maxRecDepth 20000 in
theorem ggX4_note_X4_bring : GoodIn wsX4_note wsX4_bring := goodIn_r _ [7] (by decide +kernel) (by decide +kernel)
set_option maxRecDepth 20000 in
theorem gX4_note_X4_bring : GoodIn wsX4_note (va_wsS RX4 79 yX4_bring wsX4_bring) := goodIn_app (goodIn_of _ (by decide +kernel)) ggX4_note_X4_bring
set_option maxRecDepth 20000 in
theorem ggX4_note_X4_anew : GoodIn wsX4_note wsX4_anew := goodIn_r _ [11, 12, 13, 14, 15, 16, 17, 18, 19, 20, 21, 22, 23] (by decide +kernel) (by decide +kernel)
set_option maxRecDepth 20000 in
theorem gX4_note_X4_anew : GoodIn wsX4_note (wsV RX4 32 RX4 yX4_anew wsX4_anew) := goodIn_app (goodIn_of _ (by decide +kernel)) ggX4_note_X4_anew
theorem dX4_note_0 : decode cX4_note 0 = .ok (.aload_n 0, 1) := by decide +kernel
theorem dX4_note_1 : decode cX4_note 1 = .ok (.getfield 76, 3) := by decide +kernel
theorem dX4_note_4 : decode cX4_note 4 = .ok (.bipush 12, 2) := by decide +kernel
theorem dX4_note_6 : decode cX4_note 6 = .ok (.if_icmp .ne 30, 3) := by decide +kernel
theorem dX4_note_9 : decode cX4_note 9 = .ok (.aload_n 0, 1) := by decide +kernel
theorem dX4_note_10 : decode cX4_note 10 = .ok (.getfield 13, 3) := by decide +kernel
theorem dX4_note_13 : decode cX4_note 13 = .ok (.bipush 60, 2) := by decide +kernel
theorem dX4_note_15 : decode cX4_note 15 = .ok (.aload_n 0, 1) := by decide +kernel
theorem dX4_note_16 : decode cX4_note 16 = .ok (.getfield 13, 3) := by decide +kernel
theorem dX4_note_19 : decode cX4_note 19 = .ok (.iconst 0, 1) := by decide +kernel
theorem dX4_note_20 : decode cX4_note 20 = .ok (.sipush 660, 3) := by decide +kernel
theorem dX4_note_23 : decode cX4_note 23 = .ok (.invokestatic 79, 3) := by decide +kernel
theorem dX4_note_26 : decode cX4_note 26 = .ok (.aload_n 0, 1) := by decide +kernel
theorem dX4_note_27 : decode cX4_note 27 = .ok (.dup, 1) := by decide +kernel
theorem dX4_note_28 : decode cX4_note 28 = .ok (.getfield 76, 3) := by decide +kernel
theorem dX4_note_31 : decode cX4_note 31 = .ok (.iconst 1, 1) := by decide +kernel
theorem dX4_note_32 : decode cX4_note 32 = .ok (.isub, 1) := by decide +kernel
theorem dX4_note_33 : decode cX4_note 33 = .ok (.putfield 76, 3) := by decide +kernel
theorem dX4_note_36 : decode cX4_note 36 = .ok (.aload_n 0, 1) := by decide +kernel
theorem dX4_note_37 : decode cX4_note 37 = .ok (.getfield 7, 3) := by decide +kernel
theorem dX4_note_40 : decode cX4_note 40 = .ok (.iconst 0, 1) := by decide +kernel
theorem dX4_note_41 : decode cX4_note 41 = .ok (.aload_n 0, 1) := by decide +kernel
theorem dX4_note_42 : decode cX4_note 42 = .ok (.getfield 13, 3) := by decide +kernel
theorem dX4_note_45 : decode cX4_note 45 = .ok (.bipush 60, 2) := by decide +kernel
theorem dX4_note_47 : decode cX4_note 47 = .ok (.aload_n 0, 1) := by decide +kernel
theorem dX4_note_48 : decode cX4_note 48 = .ok (.getfield 76, 3) := by decide +kernel
theorem dX4_note_51 : decode cX4_note 51 = .ok (.imul, 1) := by decide +kernel
theorem dX4_note_52 : decode cX4_note 52 = .ok (.bipush 60, 2) := by decide +kernel
theorem dX4_note_54 : decode cX4_note 54 = .ok (.invokestatic 79, 3) := by decide +kernel
theorem dX4_note_57 : decode cX4_note 57 = .ok (.aload_n 0, 1) := by decide +kernel
theorem dX4_note_58 : decode cX4_note 58 = .ok (.dup, 1) := by decide +kernel
theorem dX4_note_59 : decode cX4_note 59 = .ok (.getfield 76, 3) := by decide +kernel
theorem dX4_note_62 : decode cX4_note 62 = .ok (.iconst 1, 1) := by decide +kernel
theorem dX4_note_63 : decode cX4_note 63 = .ok (.iadd, 1) := by decide +kernel
theorem dX4_note_64 : decode cX4_note 64 = .ok (.putfield 76, 3) := by decide +kernel
theorem dX4_note_67 : decode cX4_note 67 = .ok (.aload_n 0, 1) := by decide +kernel
theorem dX4_note_68 : decode cX4_note 68 = .ok (.invokevirtual 32, 3) := by decide +kernel
theorem dX4_note_71 : decode cX4_note 71 = .ok (.return_, 1) := by decide +kernel
set_option maxRecDepth 20000 in
theorem ggX4_channels_X4_in : GoodIn wsX4_channels wsX4_in := goodIn_r _ [8] (by decide +kernel) (by decide +kernel)
set_option maxRecDepth 20000 in
theorem gX4_channels_X4_in : GoodIn wsX4_channels (va_wsS RX4 43 yX4_in wsX4_in) := goodIn_app (goodIn_of _ (by decide +kernel)) ggX4_channels_X4_in
set_option maxRecDepth 20000 in
theorem ggX4_channels_X4_layPrime : GoodIn wsX4_channels wsX4_layPrime := goodIn_r _ [12, 2, 4, 13, 14, 7, 15, 22, 23, 24, 25, 26, 27, 28, 29, 30, 31] (by decide +kernel) (by decide +kernel)
set_option maxRecDepth 20000 in
theorem gX4_channels_X4_layPrime : GoodIn wsX4_channels (wsV RX4 29 RX4 yX4_layPrime wsX4_layPrime) := goodIn_app (goodIn_of _ (by decide +kernel)) ggX4_channels_X4_layPrime
set_option maxRecDepth 20000 in
theorem ggX4_channels_X4_anew : GoodIn wsX4_channels wsX4_anew := goodIn_r _ [19, 20, 21, 22, 23, 24, 25, 26, 27, 28, 29, 30, 31] (by decide +kernel) (by decide +kernel)
set_option maxRecDepth 20000 in
theorem gX4_channels_X4_anew : GoodIn wsX4_channels (wsV RX4 32 RX4 yX4_anew wsX4_anew) := goodIn_app (goodIn_of _ (by decide +kernel)) ggX4_channels_X4_anew
theorem dX4_channels_0 : decode cX4_channels 0 = .ok (.iload_n 1, 1) := by decide +kernel
theorem dX4_channels_1 : decode cX4_channels 1 = .ok (.iconst 2, 1) := by decide +kernel
theorem dX4_channels_2 : decode cX4_channels 2 = .ok (.bipush 10, 2) := by decide +kernel
theorem dX4_channels_4 : decode cX4_channels 4 = .ok (.invokestatic 43, 3) := by decide +kernel
theorem dX4_channels_7 : decode cX4_channels 7 = .ok (.ifCond .ne 6, 3) := by decide +kernel
theorem dX4_channels_10 : decode cX4_channels 10 = .ok (.ldc 83, 2) := by decide +kernel
theorem dX4_channels_12 : decode cX4_channels 12 = .ok (.ireturn, 1) := by decide +kernel
theorem dX4_channels_13 : decode cX4_channels 13 = .ok (.aload_n 0, 1) := by decide +kernel
theorem dX4_channels_14 : decode cX4_channels 14 = .ok (.getfield 7, 3) := by decide +kernel
theorem dX4_channels_17 : decode cX4_channels 17 = .ok (.iconst 0, 1) := by decide +kernel
theorem dX4_channels_18 : decode cX4_channels 18 = .ok (.iload_n 1, 1) := by decide +kernel
theorem dX4_channels_19 : decode cX4_channels 19 = .ok (.iastore, 1) := by decide +kernel
theorem dX4_channels_20 : decode cX4_channels 20 = .ok (.aload_n 0, 1) := by decide +kernel
theorem dX4_channels_21 : decode cX4_channels 21 = .ok (.getfield 7, 3) := by decide +kernel
theorem dX4_channels_24 : decode cX4_channels 24 = .ok (.iconst 1, 1) := by decide +kernel
theorem dX4_channels_25 : decode cX4_channels 25 = .ok (.iconst 0, 1) := by decide +kernel
theorem dX4_channels_26 : decode cX4_channels 26 = .ok (.iastore, 1) := by decide +kernel
theorem dX4_channels_27 : decode cX4_channels 27 = .ok (.aload_n 0, 1) := by decide +kernel
theorem dX4_channels_28 : decode cX4_channels 28 = .ok (.getfield 7, 3) := by decide +kernel
theorem dX4_channels_31 : decode cX4_channels 31 = .ok (.iconst 2, 1) := by decide +kernel
theorem dX4_channels_32 : decode cX4_channels 32 = .ok (.iconst 0, 1) := by decide +kernel
theorem dX4_channels_33 : decode cX4_channels 33 = .ok (.iastore, 1) := by decide +kernel
theorem dX4_channels_34 : decode cX4_channels 34 = .ok (.aload_n 0, 1) := by decide +kernel
theorem dX4_channels_35 : decode cX4_channels 35 = .ok (.iconst 0, 1) := by decide +kernel
theorem dX4_channels_36 : decode cX4_channels 36 = .ok (.putfield 76, 3) := by decide +kernel
theorem dX4_channels_39 : decode cX4_channels 39 = .ok (.aload_n 0, 1) := by decide +kernel
theorem dX4_channels_40 : decode cX4_channels 40 = .ok (.invokevirtual 29, 3) := by decide +kernel
theorem dX4_channels_43 : decode cX4_channels 43 = .ok (.aload_n 0, 1) := by decide +kernel
theorem dX4_channels_44 : decode cX4_channels 44 = .ok (.invokevirtual 32, 3) := by decide +kernel
theorem dX4_channels_47 : decode cX4_channels 47 = .ok (.aload_n 0, 1) := by decide +kernel
theorem dX4_channels_48 : decode cX4_channels 48 = .ok (.getfield 35, 3) := by decide +kernel
theorem dX4_channels_51 : decode cX4_channels 51 = .ok (.ireturn, 1) := by decide +kernel
set_option maxRecDepth 20000 in
theorem ggX4_isBound_X4_in : GoodIn wsX4_isBound wsX4_in := goodIn_r _ [4] (by decide +kernel) (by decide +kernel)
set_option maxRecDepth 20000 in
theorem gX4_isBound_X4_in : GoodIn wsX4_isBound (va_wsS RX4 43 yX4_in wsX4_in) := goodIn_app (goodIn_of _ (by decide +kernel)) ggX4_isBound_X4_in
theorem dX4_isBound_0 : decode cX4_isBound 0 = .ok (.iload_n 1, 1) := by decide +kernel
theorem dX4_isBound_1 : decode cX4_isBound 1 = .ok (.iconst 0, 1) := by decide +kernel
theorem dX4_isBound_2 : decode cX4_isBound 2 = .ok (.iload_n 0, 1) := by decide +kernel
theorem dX4_isBound_3 : decode cX4_isBound 3 = .ok (.ifCond .ne 7, 3) := by decide +kernel
theorem dX4_isBound_6 : decode cX4_isBound 6 = .ok (.iconst 3, 1) := by decide +kernel
theorem dX4_isBound_7 : decode cX4_isBound 7 = .ok (.goto 16, 3) := by decide +kernel
theorem dX4_isBound_10 : decode cX4_isBound 10 = .ok (.iload_n 0, 1) := by decide +kernel
theorem dX4_isBound_11 : decode cX4_isBound 11 = .ok (.iconst 3, 1) := by decide +kernel
theorem dX4_isBound_12 : decode cX4_isBound 12 = .ok (.if_icmp .ne 9, 3) := by decide +kernel
theorem dX4_isBound_15 : decode cX4_isBound 15 = .ok (.sipush 200, 3) := by decide +kernel
theorem dX4_isBound_18 : decode cX4_isBound 18 = .ok (.goto 5, 3) := by decide +kernel
theorem dX4_isBound_21 : decode cX4_isBound 21 = .ok (.bipush 99, 2) := by decide +kernel
theorem dX4_isBound_23 : decode cX4_isBound 23 = .ok (.invokestatic 43, 3) := by decide +kernel
theorem dX4_isBound_26 : decode cX4_isBound 26 = .ok (.ireturn, 1) := by decide +kernel
set_option maxRecDepth 20000 in
theorem ggX4_user_X4_isBound : GoodIn wsX4_user wsX4_isBound := goodIn_r _ [7, 8, 9, 6, 10] (by decide +kernel) (by decide +kernel)
set_option maxRecDepth 20000 in
theorem gX4_user_X4_isBound : GoodIn wsX4_user (va_wsS RX4 84 yX4_isBound wsX4_isBound) := goodIn_app (goodIn_of _ (by decide +kernel)) ggX4_user_X4_isBound
set_option maxRecDepth 20000 in
theorem ggX4_user_X4_note : GoodIn wsX4_user wsX4_note := goodIn_r _ [14, 15, 16, 2, 17, 18, 6, 19, 20, 21, 22, 23, 24, 25, 30, 31, 32, 33, 34, 35, 36, 37, 38, 39] (by decide +kernel) (by decide +kernel)
set_option maxRecDepth 20000 in
theorem gX4_user_X4_note : GoodIn wsX4_user (wsV RX4 89 RX4 yX4_note wsX4_note) := goodIn_app (goodIn_of _ (by decide +kernel)) ggX4_user_X4_note
set_option maxRecDepth 20000 in
theorem ggX4_user_X4_all : GoodIn wsX4_user wsX4_all := goodIn_r _ [29, 2, 30, 31, 32, 33, 34, 35, 36, 37, 38, 39] (by decide +kernel) (by decide +kernel)
set_option maxRecDepth 20000 in
theorem gX4_user_X4_all : GoodIn wsX4_user (wsV RX4 92 RX4 yX4_all wsX4_all) := goodIn_app (goodIn_of _ (by decide +kernel)) ggX4_user_X4_all
theorem dX4_user_0 : decode cX4_user 0 = .ok (.iconst 0, 1) := by decide +kernel
theorem dX4_user_1 : decode cX4_user 1 = .ok (.iload_n 1, 1) := by decide +kernel
theorem dX4_user_2 : decode cX4_user 2 = .ok (.invokestatic 84, 3) := by decide +kernel
theorem dX4_user_5 : decode cX4_user 5 = .ok (.ifCond .eq 28, 3) := by decide +kernel
theorem dX4_user_8 : decode cX4_user 8 = .ok (.iconst 1, 1) := by decide +kernel
theorem dX4_user_9 : decode cX4_user 9 = .ok (.iload_n 2, 1) := by decide +kernel
theorem dX4_user_10 : decode cX4_user 10 = .ok (.invokestatic 84, 3) := by decide +kernel
theorem dX4_user_13 : decode cX4_user 13 = .ok (.ifCond .eq 20, 3) := by decide +kernel
theorem dX4_user_16 : decode cX4_user 16 = .ok (.iconst 2, 1) := by decide +kernel
theorem dX4_user_17 : decode cX4_user 17 = .ok (.iload_n 3, 1) := by decide +kernel
theorem dX4_user_18 : decode cX4_user 18 = .ok (.invokestatic 84, 3) := by decide +kernel
theorem dX4_user_21 : decode cX4_user 21 = .ok (.ifCond .eq 12, 3) := by decide +kernel
theorem dX4_user_24 : decode cX4_user 24 = .ok (.iconst 3, 1) := by decide +kernel
theorem dX4_user_25 : decode cX4_user 25 = .ok (.iload 4, 2) := by decide +kernel
theorem dX4_user_27 : decode cX4_user 27 = .ok (.invokestatic 84, 3) := by decide +kernel
theorem dX4_user_30 : decode cX4_user 30 = .ok (.ifCond .ne 6, 3) := by decide +kernel
theorem dX4_user_33 : decode cX4_user 33 = .ok (.ldc 83, 2) := by decide +kernel
theorem dX4_user_35 : decode cX4_user 35 = .ok (.ireturn, 1) := by decide +kernel
theorem dX4_user_36 : decode cX4_user 36 = .ok (.aload_n 0, 1) := by decide +kernel
theorem dX4_user_37 : decode cX4_user 37 = .ok (.getfield 7, 3) := by decide +kernel
theorem dX4_user_40 : decode cX4_user 40 = .ok (.iconst 1, 1) := by decide +kernel
theorem dX4_user_41 : decode cX4_user 41 = .ok (.iaload, 1) := by decide +kernel
theorem dX4_user_42 : decode cX4_user 42 = .ok (.iconst 5, 1) := by decide +kernel
theorem dX4_user_43 : decode cX4_user 43 = .ok (.if_icmp .ne 6, 3) := by decide +kernel
theorem dX4_user_46 : decode cX4_user 46 = .ok (.ldc 88, 2) := by decide +kernel
theorem dX4_user_48 : decode cX4_user 48 = .ok (.ireturn, 1) := by decide +kernel
theorem dX4_user_49 : decode cX4_user 49 = .ok (.aload_n 0, 1) := by decide +kernel
theorem dX4_user_50 : decode cX4_user 50 = .ok (.invokevirtual 89, 3) := by decide +kernel
theorem dX4_user_53 : decode cX4_user 53 = .ok (.iconst 3, 1) := by decide +kernel
theorem dX4_user_54 : decode cX4_user 54 = .ok (.iconst 5, 1) := by decide +kernel
theorem dX4_user_55 : decode cX4_user 55 = .ok (.aload_n 0, 1) := by decide +kernel
theorem dX4_user_56 : decode cX4_user 56 = .ok (.getfield 7, 3) := by decide +kernel
theorem dX4_user_59 : decode cX4_user 59 = .ok (.iconst 1, 1) := by decide +kernel
theorem dX4_user_60 : decode cX4_user 60 = .ok (.iaload, 1) := by decide +kernel
theorem dX4_user_61 : decode cX4_user 61 = .ok (.imul, 1) := by decide +kernel
theorem dX4_user_62 : decode cX4_user 62 = .ok (.iadd, 1) := by decide +kernel
theorem dX4_user_63 : decode cX4_user 63 = .ok (.istore 5, 2) := by decide +kernel
theorem dX4_user_65 : decode cX4_user 65 = .ok (.aload_n 0, 1) := by decide +kernel
theorem dX4_user_66 : decode cX4_user 66 = .ok (.getfield 7, 3) := by decide +kernel
theorem dX4_user_69 : decode cX4_user 69 = .ok (.iload 5, 2) := by decide +kernel
theorem dX4_user_71 : decode cX4_user 71 = .ok (.iload_n 1, 1) := by decide +kernel
theorem dX4_user_72 : decode cX4_user 72 = .ok (.iastore, 1) := by decide +kernel
theorem dX4_user_73 : decode cX4_user 73 = .ok (.aload_n 0, 1) := by decide +kernel
theorem dX4_user_74 : decode cX4_user 74 = .ok (.getfield 7, 3) := by decide +kernel
theorem dX4_user_77 : decode cX4_user 77 = .ok (.iload 5, 2) := by decide +kernel
theorem dX4_user_79 : decode cX4_user 79 = .ok (.iconst 1, 1) := by decide +kernel
theorem dX4_user_80 : decode cX4_user 80 = .ok (.iadd, 1) := by decide +kernel
theorem dX4_user_81 : decode cX4_user 81 = .ok (.iload_n 2, 1) := by decide +kernel
theorem dX4_user_82 : decode cX4_user 82 = .ok (.iastore, 1) := by decide +kernel
theorem dX4_user_83 : decode cX4_user 83 = .ok (.aload_n 0, 1) := by decide +kernel
theorem dX4_user_84 : decode cX4_user 84 = .ok (.getfield 7, 3) := by decide +kernel
theorem dX4_user_87 : decode cX4_user 87 = .ok (.iload 5, 2) := by decide +kernel
theorem dX4_user_89 : decode cX4_user 89 = .ok (.iconst 2, 1) := by decide +kernel
theorem dX4_user_90 : decode cX4_user 90 = .ok (.iadd, 1) := by decide +kernel
theorem dX4_user_91 : decode cX4_user 91 = .ok (.iload_n 3, 1) := by decide +kernel
theorem dX4_user_92 : decode cX4_user 92 = .ok (.iastore, 1) := by decide +kernel
theorem dX4_user_93 : decode cX4_user 93 = .ok (.aload_n 0, 1) := by decide +kernel
theorem dX4_user_94 : decode cX4_user 94 = .ok (.getfield 7, 3) := by decide +kernel
theorem dX4_user_97 : decode cX4_user 97 = .ok (.iload 5, 2) := by decide +kernel
theorem dX4_user_99 : decode cX4_user 99 = .ok (.iconst 3, 1) := by decide +kernel
theorem dX4_user_100 : decode cX4_user 100 = .ok (.iadd, 1) := by decide +kernel
theorem dX4_user_101 : decode cX4_user 101 = .ok (.iload 4, 2) := by decide +kernel
theorem dX4_user_103 : decode cX4_user 103 = .ok (.iastore, 1) := by decide +kernel
theorem dX4_user_104 : decode cX4_user 104 = .ok (.aload_n 0, 1) := by decide +kernel
theorem dX4_user_105 : decode cX4_user 105 = .ok (.getfield 7, 3) := by decide +kernel
theorem dX4_user_108 : decode cX4_user 108 = .ok (.iload 5, 2) := by decide +kernel
theorem dX4_user_110 : decode cX4_user 110 = .ok (.iconst 4, 1) := by decide +kernel
theorem dX4_user_111 : decode cX4_user 111 = .ok (.iadd, 1) := by decide +kernel
theorem dX4_user_112 : decode cX4_user 112 = .ok (.aload_n 0, 1) := by decide +kernel
theorem dX4_user_113 : decode cX4_user 113 = .ok (.invokevirtual 92, 3) := by decide +kernel
theorem dX4_user_116 : decode cX4_user 116 = .ok (.iastore, 1) := by decide +kernel
theorem dX4_user_117 : decode cX4_user 117 = .ok (.aload_n 0, 1) := by decide +kernel
theorem dX4_user_118 : decode cX4_user 118 = .ok (.getfield 7, 3) := by decide +kernel
theorem dX4_user_121 : decode cX4_user 121 = .ok (.iconst 1, 1) := by decide +kernel
theorem dX4_user_122 : decode cX4_user 122 = .ok (.dup2, 1) := by decide +kernel
theorem dX4_user_123 : decode cX4_user 123 = .ok (.iaload, 1) := by decide +kernel
theorem dX4_user_124 : decode cX4_user 124 = .ok (.iconst 1, 1) := by decide +kernel
theorem dX4_user_125 : decode cX4_user 125 = .ok (.iadd, 1) := by decide +kernel
theorem dX4_user_126 : decode cX4_user 126 = .ok (.iastore, 1) := by decide +kernel
theorem dX4_user_127 : decode cX4_user 127 = .ok (.aload_n 0, 1) := by decide +kernel
theorem dX4_user_128 : decode cX4_user 128 = .ok (.getfield 7, 3) := by decide +kernel
theorem dX4_user_131 : decode cX4_user 131 = .ok (.iconst 1, 1) := by decide +kernel
theorem dX4_user_132 : decode cX4_user 132 = .ok (.iaload, 1) := by decide +kernel
theorem dX4_user_133 : decode cX4_user 133 = .ok (.iconst 1, 1) := by decide +kernel
theorem dX4_user_134 : decode cX4_user 134 = .ok (.isub, 1) := by decide +kernel
theorem dX4_user_135 : decode cX4_user 135 = .ok (.ireturn, 1) := by decide +kernel
set_option maxRecDepth 20000 in
theorem ggX4_becomes_X4_note : GoodIn wsX4_becomes wsX4_note := goodIn_r _ [6, 7, 8, 1, 9, 10, 5, 11, 12, 13, 14, 15, 16, 17, 22, 23, 24, 25, 26, 27, 28, 29, 30, 31] (by decide +kernel) (by decide +kernel)
set_option maxRecDepth 20000 in
theorem gX4_becomes_X4_note : GoodIn wsX4_becomes (wsV RX4 89 RX4 yX4_note wsX4_note) := goodIn_app (goodIn_of _ (by decide +kernel)) ggX4_becomes_X4_note
set_option maxRecDepth 20000 in
theorem ggX4_becomes_X4_of : GoodIn wsX4_becomes wsX4_of := goodIn_r _ [21, 1, 22, 23, 24, 25, 26, 27, 28, 29, 30, 31] (by decide +kernel) (by decide +kernel)
set_option maxRecDepth 20000 in
theorem gX4_becomes_X4_of : GoodIn wsX4_becomes (wsV RX4 50 RX4 yX4_of wsX4_of) := goodIn_app (goodIn_of _ (by decide +kernel)) ggX4_becomes_X4_of
theorem dX4_becomes_0 : decode cX4_becomes 0 = .ok (.aload_n 0, 1) := by decide +kernel
theorem dX4_becomes_1 : decode cX4_becomes 1 = .ok (.invokevirtual 89, 3) := by decide +kernel
theorem dX4_becomes_4 : decode cX4_becomes 4 = .ok (.aload_n 0, 1) := by decide +kernel
theorem dX4_becomes_5 : decode cX4_becomes 5 = .ok (.iload_n 1, 1) := by decide +kernel
theorem dX4_becomes_6 : decode cX4_becomes 6 = .ok (.iload_n 2, 1) := by decide +kernel
theorem dX4_becomes_7 : decode cX4_becomes 7 = .ok (.invokevirtual 50, 3) := by decide +kernel
theorem dX4_becomes_10 : decode cX4_becomes 10 = .ok (.istore 4, 2) := by decide +kernel
theorem dX4_becomes_12 : decode cX4_becomes 12 = .ok (.aload_n 0, 1) := by decide +kernel
theorem dX4_becomes_13 : decode cX4_becomes 13 = .ok (.getfield 7, 3) := by decide +kernel
theorem dX4_becomes_16 : decode cX4_becomes 16 = .ok (.iconst 3, 1) := by decide +kernel
theorem dX4_becomes_17 : decode cX4_becomes 17 = .ok (.iconst 5, 1) := by decide +kernel
theorem dX4_becomes_18 : decode cX4_becomes 18 = .ok (.iload_n 1, 1) := by decide +kernel
theorem dX4_becomes_19 : decode cX4_becomes 19 = .ok (.imul, 1) := by decide +kernel
theorem dX4_becomes_20 : decode cX4_becomes 20 = .ok (.iadd, 1) := by decide +kernel
theorem dX4_becomes_21 : decode cX4_becomes 21 = .ok (.iload_n 2, 1) := by decide +kernel
theorem dX4_becomes_22 : decode cX4_becomes 22 = .ok (.iadd, 1) := by decide +kernel
theorem dX4_becomes_23 : decode cX4_becomes 23 = .ok (.iload_n 3, 1) := by decide +kernel
theorem dX4_becomes_24 : decode cX4_becomes 24 = .ok (.iastore, 1) := by decide +kernel
theorem dX4_becomes_25 : decode cX4_becomes 25 = .ok (.iload 4, 2) := by decide +kernel
theorem dX4_becomes_27 : decode cX4_becomes 27 = .ok (.ireturn, 1) := by decide +kernel
set_option maxRecDepth 20000 in
theorem ggX4_open_X4_isUser : GoodIn wsX4_open wsX4_isUser := goodIn_r _ [7, 8, 9, 10, 6, 11, 39, 40, 41, 42, 43, 44, 45, 46, 47, 48] (by decide +kernel) (by decide +kernel)
set_option maxRecDepth 20000 in
theorem gX4_open_X4_isUser : GoodIn wsX4_open (wsV RX4 47 RX4 yX4_isUser wsX4_isUser) := goodIn_app (goodIn_of _ (by decide +kernel)) ggX4_open_X4_isUser
set_option maxRecDepth 20000 in
theorem ggX4_open_X4_all : GoodIn wsX4_open wsX4_all := goodIn_r _ [15, 8, 39, 40, 41, 42, 43, 44, 45, 46, 47, 48] (by decide +kernel) (by decide +kernel)
set_option maxRecDepth 20000 in
theorem gX4_open_X4_all : GoodIn wsX4_open (wsV RX4 92 RX4 yX4_all wsX4_all) := goodIn_app (goodIn_of _ (by decide +kernel)) ggX4_open_X4_all
set_option maxRecDepth 20000 in
theorem ggX4_open_X4_in : GoodIn wsX4_open wsX4_in := goodIn_r _ [11] (by decide +kernel) (by decide +kernel)
set_option maxRecDepth 20000 in
theorem gX4_open_X4_in : GoodIn wsX4_open (va_wsS RX4 43 yX4_in wsX4_in) := goodIn_app (goodIn_of _ (by decide +kernel)) ggX4_open_X4_in
set_option maxRecDepth 20000 in
theorem ggX4_open_X4_becomes : GoodIn wsX4_open wsX4_becomes := goodIn_r _ [19, 8, 20, 21, 22, 6, 23, 24, 25, 26, 27, 28, 29, 30, 31, 32, 33, 34, 35, 36, 37, 38, 39, 40, 41, 42, 43, 44, 45, 46, 47, 48] (by decide +kernel) (by decide +kernel)
set_option maxRecDepth 20000 in
theorem gX4_open_X4_becomes : GoodIn wsX4_open (wsV RX4 97 RX4 yX4_becomes wsX4_becomes) := goodIn_app (goodIn_of _ (by decide +kernel)) ggX4_open_X4_becomes
theorem dX4_open_0 : decode cX4_open 0 = .ok (.aload_n 0, 1) := by decide +kernel
theorem dX4_open_1 : decode cX4_open 1 = .ok (.iload_n 1, 1) := by decide +kernel
theorem dX4_open_2 : decode cX4_open 2 = .ok (.invokevirtual 47, 3) := by decide +kernel
theorem dX4_open_5 : decode cX4_open 5 = .ok (.ifCond .ne 6, 3) := by decide +kernel
theorem dX4_open_8 : decode cX4_open 8 = .ok (.ldc 96, 2) := by decide +kernel
theorem dX4_open_10 : decode cX4_open 10 = .ok (.ireturn, 1) := by decide +kernel
theorem dX4_open_11 : decode cX4_open 11 = .ok (.iload_n 2, 1) := by decide +kernel
theorem dX4_open_12 : decode cX4_open 12 = .ok (.iconst 0, 1) := by decide +kernel
theorem dX4_open_13 : decode cX4_open 13 = .ok (.aload_n 0, 1) := by decide +kernel
theorem dX4_open_14 : decode cX4_open 14 = .ok (.invokevirtual 92, 3) := by decide +kernel
theorem dX4_open_17 : decode cX4_open 17 = .ok (.invokestatic 43, 3) := by decide +kernel
theorem dX4_open_20 : decode cX4_open 20 = .ok (.ifCond .eq 13, 3) := by decide +kernel
theorem dX4_open_23 : decode cX4_open 23 = .ok (.aload_n 0, 1) := by decide +kernel
theorem dX4_open_24 : decode cX4_open 24 = .ok (.iload_n 1, 1) := by decide +kernel
theorem dX4_open_25 : decode cX4_open 25 = .ok (.iconst 4, 1) := by decide +kernel
theorem dX4_open_26 : decode cX4_open 26 = .ok (.iload_n 2, 1) := by decide +kernel
theorem dX4_open_27 : decode cX4_open 27 = .ok (.invokevirtual 97, 3) := by decide +kernel
theorem dX4_open_30 : decode cX4_open 30 = .ok (.goto 5, 3) := by decide +kernel
theorem dX4_open_33 : decode cX4_open 33 = .ok (.ldc 83, 2) := by decide +kernel
theorem dX4_open_35 : decode cX4_open 35 = .ok (.ireturn, 1) := by decide +kernel
set_option maxRecDepth 20000 in
theorem ggX4_set_X4_isUser : GoodIn wsX4_set wsX4_isUser := goodIn_r _ [7, 8, 9, 10, 6, 11, 38, 39, 40, 41, 42, 43, 44, 45, 46, 47] (by decide +kernel) (by decide +kernel)
set_option maxRecDepth 20000 in
theorem gX4_set_X4_isUser : GoodIn wsX4_set (wsV RX4 47 RX4 yX4_isUser wsX4_isUser) := goodIn_app (goodIn_of _ (by decide +kernel)) ggX4_set_X4_isUser
set_option maxRecDepth 20000 in
theorem ggX4_set_X4_in : GoodIn wsX4_set wsX4_in := goodIn_r _ [11] (by decide +kernel) (by decide +kernel)
set_option maxRecDepth 20000 in
theorem gX4_set_X4_in : GoodIn wsX4_set (va_wsS RX4 43 yX4_in wsX4_in) := goodIn_app (goodIn_of _ (by decide +kernel)) ggX4_set_X4_in
set_option maxRecDepth 20000 in
theorem ggX4_set_X4_isBound : GoodIn wsX4_set wsX4_isBound := goodIn_r _ [14, 9, 10, 6, 11] (by decide +kernel) (by decide +kernel)
set_option maxRecDepth 20000 in
theorem gX4_set_X4_isBound : GoodIn wsX4_set (va_wsS RX4 84 yX4_isBound wsX4_isBound) := goodIn_app (goodIn_of _ (by decide +kernel)) ggX4_set_X4_isBound
set_option maxRecDepth 20000 in
theorem ggX4_set_X4_becomes : GoodIn wsX4_set wsX4_becomes := goodIn_r _ [18, 8, 19, 20, 21, 6, 22, 23, 24, 25, 26, 27, 28, 29, 30, 31, 32, 33, 34, 35, 36, 37, 38, 39, 40, 41, 42, 43, 44, 45, 46, 47] (by decide +kernel) (by decide +kernel)
set_option maxRecDepth 20000 in
theorem gX4_set_X4_becomes : GoodIn wsX4_set (wsV RX4 97 RX4 yX4_becomes wsX4_becomes) := goodIn_app (goodIn_of _ (by decide +kernel)) ggX4_set_X4_becomes
theorem dX4_set_0 : decode cX4_set 0 = .ok (.aload_n 0, 1) := by decide +kernel
theorem dX4_set_1 : decode cX4_set 1 = .ok (.iload_n 1, 1) := by decide +kernel
theorem dX4_set_2 : decode cX4_set 2 = .ok (.invokevirtual 47, 3) := by decide +kernel
theorem dX4_set_5 : decode cX4_set 5 = .ok (.ifCond .ne 6, 3) := by decide +kernel
theorem dX4_set_8 : decode cX4_set 8 = .ok (.ldc 96, 2) := by decide +kernel
theorem dX4_set_10 : decode cX4_set 10 = .ok (.ireturn, 1) := by decide +kernel
theorem dX4_set_11 : decode cX4_set 11 = .ok (.iload_n 2, 1) := by decide +kernel
theorem dX4_set_12 : decode cX4_set 12 = .ok (.iconst 0, 1) := by decide +kernel
theorem dX4_set_13 : decode cX4_set 13 = .ok (.iconst 3, 1) := by decide +kernel
theorem dX4_set_14 : decode cX4_set 14 = .ok (.invokestatic 43, 3) := by decide +kernel
theorem dX4_set_17 : decode cX4_set 17 = .ok (.ifCond .eq 21, 3) := by decide +kernel
theorem dX4_set_20 : decode cX4_set 20 = .ok (.iload_n 2, 1) := by decide +kernel
theorem dX4_set_21 : decode cX4_set 21 = .ok (.iload_n 3, 1) := by decide +kernel
theorem dX4_set_22 : decode cX4_set 22 = .ok (.invokestatic 84, 3) := by decide +kernel
theorem dX4_set_25 : decode cX4_set 25 = .ok (.ifCond .eq 13, 3) := by decide +kernel
theorem dX4_set_28 : decode cX4_set 28 = .ok (.aload_n 0, 1) := by decide +kernel
theorem dX4_set_29 : decode cX4_set 29 = .ok (.iload_n 1, 1) := by decide +kernel
theorem dX4_set_30 : decode cX4_set 30 = .ok (.iload_n 2, 1) := by decide +kernel
theorem dX4_set_31 : decode cX4_set 31 = .ok (.iload_n 3, 1) := by decide +kernel
theorem dX4_set_32 : decode cX4_set 32 = .ok (.invokevirtual 97, 3) := by decide +kernel
theorem dX4_set_35 : decode cX4_set 35 = .ok (.goto 5, 3) := by decide +kernel
theorem dX4_set_38 : decode cX4_set 38 = .ok (.ldc 83, 2) := by decide +kernel
theorem dX4_set_40 : decode cX4_set 40 = .ok (.ireturn, 1) := by decide +kernel
set_option maxRecDepth 20000 in
theorem ggX4_shut_X4_isUser : GoodIn wsX4_shut wsX4_isUser := goodIn_r _ [9, 1, 10, 11, 8, 12, 28, 29, 30, 31, 32, 33, 34, 35, 36, 37] (by decide +kernel) (by decide +kernel)
set_option maxRecDepth 20000 in
theorem gX4_shut_X4_isUser : GoodIn wsX4_shut (wsV RX4 47 RX4 yX4_isUser wsX4_isUser) := goodIn_app (goodIn_of _ (by decide +kernel)) ggX4_shut_X4_isUser
set_option maxRecDepth 20000 in
theorem ggX4_shut_X4_in : GoodIn wsX4_shut wsX4_in := goodIn_r _ [12] (by decide +kernel) (by decide +kernel)
set_option maxRecDepth 20000 in
theorem gX4_shut_X4_in : GoodIn wsX4_shut (va_wsS RX4 43 yX4_in wsX4_in) := goodIn_app (goodIn_of _ (by decide +kernel)) ggX4_shut_X4_in
set_option maxRecDepth 20000 in
theorem ggX4_shut_X4_note : GoodIn wsX4_shut wsX4_note := goodIn_r _ [16, 17, 18, 1, 19, 20, 8, 21, 22, 23, 24, 25, 26, 27, 28, 29, 30, 31, 32, 33, 34, 35, 36, 37] (by decide +kernel) (by decide +kernel)
set_option maxRecDepth 20000 in
theorem gX4_shut_X4_note : GoodIn wsX4_shut (wsV RX4 89 RX4 yX4_note wsX4_note) := goodIn_app (goodIn_of _ (by decide +kernel)) ggX4_shut_X4_note
theorem dX4_shut_0 : decode cX4_shut 0 = .ok (.iload_n 1, 1) := by decide +kernel
theorem dX4_shut_1 : decode cX4_shut 1 = .ok (.iconst (-1), 1) := by decide +kernel
theorem dX4_shut_2 : decode cX4_shut 2 = .ok (.if_icmp .eq 11, 3) := by decide +kernel
theorem dX4_shut_5 : decode cX4_shut 5 = .ok (.aload_n 0, 1) := by decide +kernel
theorem dX4_shut_6 : decode cX4_shut 6 = .ok (.iload_n 1, 1) := by decide +kernel
theorem dX4_shut_7 : decode cX4_shut 7 = .ok (.invokevirtual 47, 3) := by decide +kernel
theorem dX4_shut_10 : decode cX4_shut 10 = .ok (.ifCond .eq 19, 3) := by decide +kernel
theorem dX4_shut_13 : decode cX4_shut 13 = .ok (.iload_n 2, 1) := by decide +kernel
theorem dX4_shut_14 : decode cX4_shut 14 = .ok (.iconst 0, 1) := by decide +kernel
theorem dX4_shut_15 : decode cX4_shut 15 = .ok (.aload_n 0, 1) := by decide +kernel
theorem dX4_shut_16 : decode cX4_shut 16 = .ok (.getfield 7, 3) := by decide +kernel
theorem dX4_shut_19 : decode cX4_shut 19 = .ok (.iconst 0, 1) := by decide +kernel
theorem dX4_shut_20 : decode cX4_shut 20 = .ok (.iaload, 1) := by decide +kernel
theorem dX4_shut_21 : decode cX4_shut 21 = .ok (.iconst 1, 1) := by decide +kernel
theorem dX4_shut_22 : decode cX4_shut 22 = .ok (.isub, 1) := by decide +kernel
theorem dX4_shut_23 : decode cX4_shut 23 = .ok (.invokestatic 43, 3) := by decide +kernel
theorem dX4_shut_26 : decode cX4_shut 26 = .ok (.ifCond .ne 6, 3) := by decide +kernel
theorem dX4_shut_29 : decode cX4_shut 29 = .ok (.ldc 96, 2) := by decide +kernel
theorem dX4_shut_31 : decode cX4_shut 31 = .ok (.ireturn, 1) := by decide +kernel
theorem dX4_shut_32 : decode cX4_shut 32 = .ok (.iload_n 3, 1) := by decide +kernel
theorem dX4_shut_33 : decode cX4_shut 33 = .ok (.iconst 0, 1) := by decide +kernel
theorem dX4_shut_34 : decode cX4_shut 34 = .ok (.sipush 1500, 3) := by decide +kernel
theorem dX4_shut_37 : decode cX4_shut 37 = .ok (.invokestatic 43, 3) := by decide +kernel
theorem dX4_shut_40 : decode cX4_shut 40 = .ok (.ifCond .eq 15, 3) := by decide +kernel
theorem dX4_shut_43 : decode cX4_shut 43 = .ok (.iload 4, 2) := by decide +kernel
theorem dX4_shut_45 : decode cX4_shut 45 = .ok (.iconst 1, 1) := by decide +kernel
theorem dX4_shut_46 : decode cX4_shut 46 = .ok (.sipush 500, 3) := by decide +kernel
theorem dX4_shut_49 : decode cX4_shut 49 = .ok (.invokestatic 43, 3) := by decide +kernel
theorem dX4_shut_52 : decode cX4_shut 52 = .ok (.ifCond .ne 6, 3) := by decide +kernel
theorem dX4_shut_55 : decode cX4_shut 55 = .ok (.ldc 83, 2) := by decide +kernel
theorem dX4_shut_57 : decode cX4_shut 57 = .ok (.ireturn, 1) := by decide +kernel
theorem dX4_shut_58 : decode cX4_shut 58 = .ok (.aload_n 0, 1) := by decide +kernel
theorem dX4_shut_59 : decode cX4_shut 59 = .ok (.getfield 7, 3) := by decide +kernel
theorem dX4_shut_62 : decode cX4_shut 62 = .ok (.iconst 2, 1) := by decide +kernel
theorem dX4_shut_63 : decode cX4_shut 63 = .ok (.iaload, 1) := by decide +kernel
theorem dX4_shut_64 : decode cX4_shut 64 = .ok (.bipush 8, 2) := by decide +kernel
theorem dX4_shut_66 : decode cX4_shut 66 = .ok (.if_icmp .ne 6, 3) := by decide +kernel
theorem dX4_shut_69 : decode cX4_shut 69 = .ok (.ldc 88, 2) := by decide +kernel
theorem dX4_shut_71 : decode cX4_shut 71 = .ok (.ireturn, 1) := by decide +kernel
theorem dX4_shut_72 : decode cX4_shut 72 = .ok (.aload_n 0, 1) := by decide +kernel
theorem dX4_shut_73 : decode cX4_shut 73 = .ok (.invokevirtual 89, 3) := by decide +kernel
theorem dX4_shut_76 : decode cX4_shut 76 = .ok (.bipush 28, 2) := by decide +kernel
theorem dX4_shut_78 : decode cX4_shut 78 = .ok (.iconst 4, 1) := by decide +kernel
theorem dX4_shut_79 : decode cX4_shut 79 = .ok (.aload_n 0, 1) := by decide +kernel
theorem dX4_shut_80 : decode cX4_shut 80 = .ok (.getfield 7, 3) := by decide +kernel
theorem dX4_shut_83 : decode cX4_shut 83 = .ok (.iconst 2, 1) := by decide +kernel
theorem dX4_shut_84 : decode cX4_shut 84 = .ok (.iaload, 1) := by decide +kernel
theorem dX4_shut_85 : decode cX4_shut 85 = .ok (.imul, 1) := by decide +kernel
theorem dX4_shut_86 : decode cX4_shut 86 = .ok (.iadd, 1) := by decide +kernel
theorem dX4_shut_87 : decode cX4_shut 87 = .ok (.istore 5, 2) := by decide +kernel
theorem dX4_shut_89 : decode cX4_shut 89 = .ok (.aload_n 0, 1) := by decide +kernel
theorem dX4_shut_90 : decode cX4_shut 90 = .ok (.getfield 7, 3) := by decide +kernel
theorem dX4_shut_93 : decode cX4_shut 93 = .ok (.iload 5, 2) := by decide +kernel
theorem dX4_shut_95 : decode cX4_shut 95 = .ok (.iload_n 1, 1) := by decide +kernel
theorem dX4_shut_96 : decode cX4_shut 96 = .ok (.iastore, 1) := by decide +kernel
theorem dX4_shut_97 : decode cX4_shut 97 = .ok (.aload_n 0, 1) := by decide +kernel
theorem dX4_shut_98 : decode cX4_shut 98 = .ok (.getfield 7, 3) := by decide +kernel
theorem dX4_shut_101 : decode cX4_shut 101 = .ok (.iload 5, 2) := by decide +kernel
theorem dX4_shut_103 : decode cX4_shut 103 = .ok (.iconst 1, 1) := by decide +kernel
theorem dX4_shut_104 : decode cX4_shut 104 = .ok (.iadd, 1) := by decide +kernel
theorem dX4_shut_105 : decode cX4_shut 105 = .ok (.iload_n 2, 1) := by decide +kernel
theorem dX4_shut_106 : decode cX4_shut 106 = .ok (.iastore, 1) := by decide +kernel
theorem dX4_shut_107 : decode cX4_shut 107 = .ok (.aload_n 0, 1) := by decide +kernel
theorem dX4_shut_108 : decode cX4_shut 108 = .ok (.getfield 7, 3) := by decide +kernel
theorem dX4_shut_111 : decode cX4_shut 111 = .ok (.iload 5, 2) := by decide +kernel
theorem dX4_shut_113 : decode cX4_shut 113 = .ok (.iconst 2, 1) := by decide +kernel
theorem dX4_shut_114 : decode cX4_shut 114 = .ok (.iadd, 1) := by decide +kernel
theorem dX4_shut_115 : decode cX4_shut 115 = .ok (.iload_n 3, 1) := by decide +kernel
theorem dX4_shut_116 : decode cX4_shut 116 = .ok (.iastore, 1) := by decide +kernel
theorem dX4_shut_117 : decode cX4_shut 117 = .ok (.aload_n 0, 1) := by decide +kernel
theorem dX4_shut_118 : decode cX4_shut 118 = .ok (.getfield 7, 3) := by decide +kernel
theorem dX4_shut_121 : decode cX4_shut 121 = .ok (.iload 5, 2) := by decide +kernel
theorem dX4_shut_123 : decode cX4_shut 123 = .ok (.iconst 3, 1) := by decide +kernel
theorem dX4_shut_124 : decode cX4_shut 124 = .ok (.iadd, 1) := by decide +kernel
theorem dX4_shut_125 : decode cX4_shut 125 = .ok (.iload 4, 2) := by decide +kernel
theorem dX4_shut_127 : decode cX4_shut 127 = .ok (.iastore, 1) := by decide +kernel
theorem dX4_shut_128 : decode cX4_shut 128 = .ok (.aload_n 0, 1) := by decide +kernel
theorem dX4_shut_129 : decode cX4_shut 129 = .ok (.getfield 7, 3) := by decide +kernel
theorem dX4_shut_132 : decode cX4_shut 132 = .ok (.iconst 2, 1) := by decide +kernel
theorem dX4_shut_133 : decode cX4_shut 133 = .ok (.dup2, 1) := by decide +kernel
theorem dX4_shut_134 : decode cX4_shut 134 = .ok (.iaload, 1) := by decide +kernel
theorem dX4_shut_135 : decode cX4_shut 135 = .ok (.iconst 1, 1) := by decide +kernel
theorem dX4_shut_136 : decode cX4_shut 136 = .ok (.iadd, 1) := by decide +kernel
theorem dX4_shut_137 : decode cX4_shut 137 = .ok (.iastore, 1) := by decide +kernel
theorem dX4_shut_138 : decode cX4_shut 138 = .ok (.aload_n 0, 1) := by decide +kernel
theorem dX4_shut_139 : decode cX4_shut 139 = .ok (.getfield 7, 3) := by decide +kernel
theorem dX4_shut_142 : decode cX4_shut 142 = .ok (.iconst 2, 1) := by decide +kernel
theorem dX4_shut_143 : decode cX4_shut 143 = .ok (.iaload, 1) := by decide +kernel
theorem dX4_shut_144 : decode cX4_shut 144 = .ok (.ireturn, 1) := by decide +kernel
theorem dX4_drawn_0 : decode cX4_drawn 0 = .ok (.aload_n 0, 1) := by decide +kernel
theorem dX4_drawn_1 : decode cX4_drawn 1 = .ok (.aload_n 0, 1) := by decide +kernel
theorem dX4_drawn_2 : decode cX4_drawn 2 = .ok (.getfield 101, 3) := by decide +kernel
theorem dX4_drawn_5 : decode cX4_drawn 5 = .ok (.ldc2_w 105, 3) := by decide +kernel
theorem dX4_drawn_8 : decode cX4_drawn 8 = .ok (.lmul, 1) := by decide +kernel
theorem dX4_drawn_9 : decode cX4_drawn 9 = .ok (.ldc2_w 107, 3) := by decide +kernel
theorem dX4_drawn_12 : decode cX4_drawn 12 = .ok (.lrem, 1) := by decide +kernel
theorem dX4_drawn_13 : decode cX4_drawn 13 = .ok (.putfield 101, 3) := by decide +kernel
theorem dX4_drawn_16 : decode cX4_drawn 16 = .ok (.aload_n 0, 1) := by decide +kernel
theorem dX4_drawn_17 : decode cX4_drawn 17 = .ok (.getfield 101, 3) := by decide +kernel
theorem dX4_drawn_20 : decode cX4_drawn 20 = .ok (.iload_n 1, 1) := by decide +kernel
theorem dX4_drawn_21 : decode cX4_drawn 21 = .ok (.i2l, 1) := by decide +kernel
theorem dX4_drawn_22 : decode cX4_drawn 22 = .ok (.lrem, 1) := by decide +kernel
theorem dX4_drawn_23 : decode cX4_drawn 23 = .ok (.l2i, 1) := by decide +kernel
theorem dX4_drawn_24 : decode cX4_drawn 24 = .ok (.ireturn, 1) := by decide +kernel
set_option maxRecDepth 20000 in
theorem ggX4_drift_X4_in : GoodIn wsX4_drift wsX4_in := goodIn_r _ [9] (by decide +kernel) (by decide +kernel)
set_option maxRecDepth 20000 in
theorem gX4_drift_X4_in : GoodIn wsX4_drift (va_wsS RX4 43 yX4_in wsX4_in) := goodIn_app (goodIn_of _ (by decide +kernel)) ggX4_drift_X4_in
set_option maxRecDepth 20000 in
theorem ggX4_drift_X4_note : GoodIn wsX4_drift wsX4_note := goodIn_r _ [13, 14, 15, 3, 16, 17, 8, 18, 19, 20, 21, 22, 23, 24, 43, 44, 45, 46, 47, 48, 49, 50, 51, 52] (by decide +kernel) (by decide +kernel)
set_option maxRecDepth 20000 in
theorem gX4_drift_X4_note : GoodIn wsX4_drift (wsV RX4 89 RX4 yX4_note wsX4_note) := goodIn_app (goodIn_of _ (by decide +kernel)) ggX4_drift_X4_note
set_option maxRecDepth 20000 in
theorem ggX4_drift_X4_drawn : GoodIn wsX4_drift wsX4_drawn := goodIn_r _ [28, 5, 29, 30, 43, 44, 45, 46, 47, 48, 49, 50, 51, 52] (by decide +kernel) (by decide +kernel)
set_option maxRecDepth 20000 in
theorem gX4_drift_X4_drawn : GoodIn wsX4_drift (wsV RX4 111 RX4 yX4_drawn wsX4_drawn) := goodIn_app (goodIn_of _ (by decide +kernel)) ggX4_drift_X4_drawn
set_option maxRecDepth 20000 in
theorem ggX4_drift_X4_common : GoodIn wsX4_drift wsX4_common := goodIn_r _ [34, 3, 35, 36, 37, 8, 38, 39, 40, 41, 42, 43, 44, 45, 46, 47, 48, 49, 50, 51, 52] (by decide +kernel) (by decide +kernel)
set_option maxRecDepth 20000 in
theorem gX4_drift_X4_common : GoodIn wsX4_drift (wsV RX4 114 RX4 yX4_common wsX4_common) := goodIn_app (goodIn_of _ (by decide +kernel)) ggX4_drift_X4_common
theorem dX4_drift_0 : decode cX4_drift 0 = .ok (.iload_n 1, 1) := by decide +kernel
theorem dX4_drift_1 : decode cX4_drift 1 = .ok (.iconst 1, 1) := by decide +kernel
theorem dX4_drift_2 : decode cX4_drift 2 = .ok (.ldc 109, 2) := by decide +kernel
theorem dX4_drift_4 : decode cX4_drift 4 = .ok (.invokestatic 43, 3) := by decide +kernel
theorem dX4_drift_7 : decode cX4_drift 7 = .ok (.ifCond .ne 6, 3) := by decide +kernel
theorem dX4_drift_10 : decode cX4_drift 10 = .ok (.ldc 83, 2) := by decide +kernel
theorem dX4_drift_12 : decode cX4_drift 12 = .ok (.ireturn, 1) := by decide +kernel
theorem dX4_drift_13 : decode cX4_drift 13 = .ok (.aload_n 0, 1) := by decide +kernel
theorem dX4_drift_14 : decode cX4_drift 14 = .ok (.getfield 7, 3) := by decide +kernel
theorem dX4_drift_17 : decode cX4_drift 17 = .ok (.iconst 1, 1) := by decide +kernel
theorem dX4_drift_18 : decode cX4_drift 18 = .ok (.iaload, 1) := by decide +kernel
theorem dX4_drift_19 : decode cX4_drift 19 = .ok (.ifCond .ne 6, 3) := by decide +kernel
theorem dX4_drift_22 : decode cX4_drift 22 = .ok (.ldc 110, 2) := by decide +kernel
theorem dX4_drift_24 : decode cX4_drift 24 = .ok (.ireturn, 1) := by decide +kernel
theorem dX4_drift_25 : decode cX4_drift 25 = .ok (.aload_n 0, 1) := by decide +kernel
theorem dX4_drift_26 : decode cX4_drift 26 = .ok (.invokevirtual 89, 3) := by decide +kernel
theorem dX4_drift_29 : decode cX4_drift 29 = .ok (.aload_n 0, 1) := by decide +kernel
theorem dX4_drift_30 : decode cX4_drift 30 = .ok (.iload_n 1, 1) := by decide +kernel
theorem dX4_drift_31 : decode cX4_drift 31 = .ok (.i2l, 1) := by decide +kernel
theorem dX4_drift_32 : decode cX4_drift 32 = .ok (.putfield 101, 3) := by decide +kernel
theorem dX4_drift_35 : decode cX4_drift 35 = .ok (.iconst 0, 1) := by decide +kernel
theorem dX4_drift_36 : decode cX4_drift 36 = .ok (.istore_n 2, 1) := by decide +kernel
theorem dX4_drift_37 : decode cX4_drift 37 = .ok (.iload_n 2, 1) := by decide +kernel
theorem dX4_drift_38 : decode cX4_drift 38 = .ok (.aload_n 0, 1) := by decide +kernel
theorem dX4_drift_39 : decode cX4_drift 39 = .ok (.getfield 7, 3) := by decide +kernel
theorem dX4_drift_42 : decode cX4_drift 42 = .ok (.iconst 1, 1) := by decide +kernel
theorem dX4_drift_43 : decode cX4_drift 43 = .ok (.iaload, 1) := by decide +kernel
theorem dX4_drift_44 : decode cX4_drift 44 = .ok (.if_icmp .ge 77, 3) := by decide +kernel
theorem dX4_drift_47 : decode cX4_drift 47 = .ok (.iconst 3, 1) := by decide +kernel
theorem dX4_drift_48 : decode cX4_drift 48 = .ok (.iconst 5, 1) := by decide +kernel
theorem dX4_drift_49 : decode cX4_drift 49 = .ok (.iload_n 2, 1) := by decide +kernel
theorem dX4_drift_50 : decode cX4_drift 50 = .ok (.imul, 1) := by decide +kernel
theorem dX4_drift_51 : decode cX4_drift 51 = .ok (.iadd, 1) := by decide +kernel
theorem dX4_drift_52 : decode cX4_drift 52 = .ok (.istore_n 3, 1) := by decide +kernel
theorem dX4_drift_53 : decode cX4_drift 53 = .ok (.aload_n 0, 1) := by decide +kernel
theorem dX4_drift_54 : decode cX4_drift 54 = .ok (.getfield 7, 3) := by decide +kernel
theorem dX4_drift_57 : decode cX4_drift 57 = .ok (.iload_n 3, 1) := by decide +kernel
theorem dX4_drift_58 : decode cX4_drift 58 = .ok (.iconst 4, 1) := by decide +kernel
theorem dX4_drift_59 : decode cX4_drift 59 = .ok (.iadd, 1) := by decide +kernel
theorem dX4_drift_60 : decode cX4_drift 60 = .ok (.aload_n 0, 1) := by decide +kernel
theorem dX4_drift_61 : decode cX4_drift 61 = .ok (.iconst 1, 1) := by decide +kernel
theorem dX4_drift_62 : decode cX4_drift 62 = .ok (.aload_n 0, 1) := by decide +kernel
theorem dX4_drift_63 : decode cX4_drift 63 = .ok (.getfield 7, 3) := by decide +kernel
theorem dX4_drift_66 : decode cX4_drift 66 = .ok (.iconst 0, 1) := by decide +kernel
theorem dX4_drift_67 : decode cX4_drift 67 = .ok (.iaload, 1) := by decide +kernel
theorem dX4_drift_68 : decode cX4_drift 68 = .ok (.ishl, 1) := by decide +kernel
theorem dX4_drift_69 : decode cX4_drift 69 = .ok (.invokevirtual 111, 3) := by decide +kernel
theorem dX4_drift_72 : decode cX4_drift 72 = .ok (.iastore, 1) := by decide +kernel
theorem dX4_drift_73 : decode cX4_drift 73 = .ok (.aload_n 0, 1) := by decide +kernel
theorem dX4_drift_74 : decode cX4_drift 74 = .ok (.getfield 7, 3) := by decide +kernel
theorem dX4_drift_77 : decode cX4_drift 77 = .ok (.iload_n 3, 1) := by decide +kernel
theorem dX4_drift_78 : decode cX4_drift 78 = .ok (.iconst 1, 1) := by decide +kernel
theorem dX4_drift_79 : decode cX4_drift 79 = .ok (.iadd, 1) := by decide +kernel
theorem dX4_drift_80 : decode cX4_drift 80 = .ok (.aload_n 0, 1) := by decide +kernel
theorem dX4_drift_81 : decode cX4_drift 81 = .ok (.bipush 100, 2) := by decide +kernel
theorem dX4_drift_83 : decode cX4_drift 83 = .ok (.invokevirtual 111, 3) := by decide +kernel
theorem dX4_drift_86 : decode cX4_drift 86 = .ok (.iastore, 1) := by decide +kernel
theorem dX4_drift_87 : decode cX4_drift 87 = .ok (.aload_n 0, 1) := by decide +kernel
theorem dX4_drift_88 : decode cX4_drift 88 = .ok (.getfield 7, 3) := by decide +kernel
theorem dX4_drift_91 : decode cX4_drift 91 = .ok (.iload_n 3, 1) := by decide +kernel
theorem dX4_drift_92 : decode cX4_drift 92 = .ok (.iconst 2, 1) := by decide +kernel
theorem dX4_drift_93 : decode cX4_drift 93 = .ok (.iadd, 1) := by decide +kernel
theorem dX4_drift_94 : decode cX4_drift 94 = .ok (.aload_n 0, 1) := by decide +kernel
theorem dX4_drift_95 : decode cX4_drift 95 = .ok (.bipush 100, 2) := by decide +kernel
theorem dX4_drift_97 : decode cX4_drift 97 = .ok (.invokevirtual 111, 3) := by decide +kernel
theorem dX4_drift_100 : decode cX4_drift 100 = .ok (.iastore, 1) := by decide +kernel
theorem dX4_drift_101 : decode cX4_drift 101 = .ok (.aload_n 0, 1) := by decide +kernel
theorem dX4_drift_102 : decode cX4_drift 102 = .ok (.getfield 7, 3) := by decide +kernel
theorem dX4_drift_105 : decode cX4_drift 105 = .ok (.iload_n 3, 1) := by decide +kernel
theorem dX4_drift_106 : decode cX4_drift 106 = .ok (.iconst 3, 1) := by decide +kernel
theorem dX4_drift_107 : decode cX4_drift 107 = .ok (.iadd, 1) := by decide +kernel
theorem dX4_drift_108 : decode cX4_drift 108 = .ok (.aload_n 0, 1) := by decide +kernel
theorem dX4_drift_109 : decode cX4_drift 109 = .ok (.bipush 50, 2) := by decide +kernel
theorem dX4_drift_111 : decode cX4_drift 111 = .ok (.invokevirtual 111, 3) := by decide +kernel
theorem dX4_drift_114 : decode cX4_drift 114 = .ok (.iastore, 1) := by decide +kernel
theorem dX4_drift_115 : decode cX4_drift 115 = .ok (.iinc 2 1, 3) := by decide +kernel
theorem dX4_drift_118 : decode cX4_drift 118 = .ok (.goto (-81), 3) := by decide +kernel
theorem dX4_drift_121 : decode cX4_drift 121 = .ok (.aload_n 0, 1) := by decide +kernel
theorem dX4_drift_122 : decode cX4_drift 122 = .ok (.invokevirtual 114, 3) := by decide +kernel
theorem dX4_drift_125 : decode cX4_drift 125 = .ok (.ireturn, 1) := by decide +kernel
set_option maxRecDepth 20000 in
theorem ggX4_undo_X4_bring : GoodIn wsX4_undo wsX4_bring := goodIn_r _ [8] (by decide +kernel) (by decide +kernel)
set_option maxRecDepth 20000 in
theorem gX4_undo_X4_bring : GoodIn wsX4_undo (va_wsS RX4 79 yX4_bring wsX4_bring) := goodIn_app (goodIn_of _ (by decide +kernel)) ggX4_undo_X4_bring
set_option maxRecDepth 20000 in
theorem ggX4_undo_X4_anew : GoodIn wsX4_undo wsX4_anew := goodIn_r _ [12, 13, 14, 15, 16, 17, 18, 19, 20, 21, 22, 23, 24] (by decide +kernel) (by decide +kernel)
set_option maxRecDepth 20000 in
theorem gX4_undo_X4_anew : GoodIn wsX4_undo (wsV RX4 32 RX4 yX4_anew wsX4_anew) := goodIn_app (goodIn_of _ (by decide +kernel)) ggX4_undo_X4_anew
theorem dX4_undo_0 : decode cX4_undo 0 = .ok (.aload_n 0, 1) := by decide +kernel
theorem dX4_undo_1 : decode cX4_undo 1 = .ok (.getfield 76, 3) := by decide +kernel
theorem dX4_undo_4 : decode cX4_undo 4 = .ok (.ifCond .ne 6, 3) := by decide +kernel
theorem dX4_undo_7 : decode cX4_undo 7 = .ok (.ldc 110, 2) := by decide +kernel
theorem dX4_undo_9 : decode cX4_undo 9 = .ok (.ireturn, 1) := by decide +kernel
theorem dX4_undo_10 : decode cX4_undo 10 = .ok (.aload_n 0, 1) := by decide +kernel
theorem dX4_undo_11 : decode cX4_undo 11 = .ok (.dup, 1) := by decide +kernel
theorem dX4_undo_12 : decode cX4_undo 12 = .ok (.getfield 76, 3) := by decide +kernel
theorem dX4_undo_15 : decode cX4_undo 15 = .ok (.iconst 1, 1) := by decide +kernel
theorem dX4_undo_16 : decode cX4_undo 16 = .ok (.isub, 1) := by decide +kernel
theorem dX4_undo_17 : decode cX4_undo 17 = .ok (.putfield 76, 3) := by decide +kernel
theorem dX4_undo_20 : decode cX4_undo 20 = .ok (.aload_n 0, 1) := by decide +kernel
theorem dX4_undo_21 : decode cX4_undo 21 = .ok (.getfield 13, 3) := by decide +kernel
theorem dX4_undo_24 : decode cX4_undo 24 = .ok (.bipush 60, 2) := by decide +kernel
theorem dX4_undo_26 : decode cX4_undo 26 = .ok (.aload_n 0, 1) := by decide +kernel
theorem dX4_undo_27 : decode cX4_undo 27 = .ok (.getfield 76, 3) := by decide +kernel
theorem dX4_undo_30 : decode cX4_undo 30 = .ok (.imul, 1) := by decide +kernel
theorem dX4_undo_31 : decode cX4_undo 31 = .ok (.aload_n 0, 1) := by decide +kernel
theorem dX4_undo_32 : decode cX4_undo 32 = .ok (.getfield 7, 3) := by decide +kernel
theorem dX4_undo_35 : decode cX4_undo 35 = .ok (.iconst 0, 1) := by decide +kernel
theorem dX4_undo_36 : decode cX4_undo 36 = .ok (.bipush 60, 2) := by decide +kernel
theorem dX4_undo_38 : decode cX4_undo 38 = .ok (.invokestatic 79, 3) := by decide +kernel
theorem dX4_undo_41 : decode cX4_undo 41 = .ok (.aload_n 0, 1) := by decide +kernel
theorem dX4_undo_42 : decode cX4_undo 42 = .ok (.invokevirtual 32, 3) := by decide +kernel
theorem dX4_undo_45 : decode cX4_undo 45 = .ok (.aload_n 0, 1) := by decide +kernel
theorem dX4_undo_46 : decode cX4_undo 46 = .ok (.getfield 76, 3) := by decide +kernel
theorem dX4_undo_49 : decode cX4_undo 49 = .ok (.ireturn, 1) := by decide +kernel
set_option maxRecDepth 20000 in
theorem ggX4_common_X4_all : GoodIn wsX4_common wsX4_all := goodIn_r _ [6, 1, 11, 12, 13, 14, 15, 16, 17, 18, 19, 20] (by decide +kernel) (by decide +kernel)
set_option maxRecDepth 20000 in
theorem gX4_common_X4_all : GoodIn wsX4_common (wsV RX4 92 RX4 yX4_all wsX4_all) := goodIn_app (goodIn_of _ (by decide +kernel)) ggX4_common_X4_all
set_option maxRecDepth 20000 in
theorem ggX4_common_X4_of : GoodIn wsX4_common wsX4_of := goodIn_r _ [10, 1, 11, 12, 13, 14, 15, 16, 17, 18, 19, 20] (by decide +kernel) (by decide +kernel)
set_option maxRecDepth 20000 in
theorem gX4_common_X4_of : GoodIn wsX4_common (wsV RX4 50 RX4 yX4_of wsX4_of) := goodIn_app (goodIn_of _ (by decide +kernel)) ggX4_common_X4_of
theorem dX4_common_0 : decode cX4_common 0 = .ok (.aload_n 0, 1) := by decide +kernel
theorem dX4_common_1 : decode cX4_common 1 = .ok (.invokevirtual 92, 3) := by decide +kernel
theorem dX4_common_4 : decode cX4_common 4 = .ok (.istore_n 1, 1) := by decide +kernel
theorem dX4_common_5 : decode cX4_common 5 = .ok (.iconst 0, 1) := by decide +kernel
theorem dX4_common_6 : decode cX4_common 6 = .ok (.istore_n 2, 1) := by decide +kernel
theorem dX4_common_7 : decode cX4_common 7 = .ok (.iload_n 2, 1) := by decide +kernel
theorem dX4_common_8 : decode cX4_common 8 = .ok (.aload_n 0, 1) := by decide +kernel
theorem dX4_common_9 : decode cX4_common 9 = .ok (.getfield 7, 3) := by decide +kernel
theorem dX4_common_12 : decode cX4_common 12 = .ok (.iconst 1, 1) := by decide +kernel
theorem dX4_common_13 : decode cX4_common 13 = .ok (.iaload, 1) := by decide +kernel
theorem dX4_common_14 : decode cX4_common 14 = .ok (.if_icmp .ge 18, 3) := by decide +kernel
theorem dX4_common_17 : decode cX4_common 17 = .ok (.iload_n 1, 1) := by decide +kernel
theorem dX4_common_18 : decode cX4_common 18 = .ok (.aload_n 0, 1) := by decide +kernel
theorem dX4_common_19 : decode cX4_common 19 = .ok (.iload_n 2, 1) := by decide +kernel
theorem dX4_common_20 : decode cX4_common 20 = .ok (.iconst 4, 1) := by decide +kernel
theorem dX4_common_21 : decode cX4_common 21 = .ok (.invokevirtual 50, 3) := by decide +kernel
theorem dX4_common_24 : decode cX4_common 24 = .ok (.iand, 1) := by decide +kernel
theorem dX4_common_25 : decode cX4_common 25 = .ok (.istore_n 1, 1) := by decide +kernel
theorem dX4_common_26 : decode cX4_common 26 = .ok (.iinc 2 1, 3) := by decide +kernel
theorem dX4_common_29 : decode cX4_common 29 = .ok (.goto (-22), 3) := by decide +kernel
theorem dX4_common_32 : decode cX4_common 32 = .ok (.iload_n 1, 1) := by decide +kernel
theorem dX4_common_33 : decode cX4_common 33 = .ok (.ireturn, 1) := by decide +kernel
theorem dX4_groups_0 : decode cX4_groups 0 = .ok (.iconst 0, 1) := by decide +kernel
theorem dX4_groups_1 : decode cX4_groups 1 = .ok (.istore_n 1, 1) := by decide +kernel
theorem dX4_groups_2 : decode cX4_groups 2 = .ok (.iconst 0, 1) := by decide +kernel
theorem dX4_groups_3 : decode cX4_groups 3 = .ok (.istore_n 2, 1) := by decide +kernel
theorem dX4_groups_4 : decode cX4_groups 4 = .ok (.iload_n 2, 1) := by decide +kernel
theorem dX4_groups_5 : decode cX4_groups 5 = .ok (.aload_n 0, 1) := by decide +kernel
theorem dX4_groups_6 : decode cX4_groups 6 = .ok (.getfield 7, 3) := by decide +kernel
theorem dX4_groups_9 : decode cX4_groups 9 = .ok (.iconst 1, 1) := by decide +kernel
theorem dX4_groups_10 : decode cX4_groups 10 = .ok (.iaload, 1) := by decide +kernel
theorem dX4_groups_11 : decode cX4_groups 11 = .ok (.if_icmp .ge 27, 3) := by decide +kernel
theorem dX4_groups_14 : decode cX4_groups 14 = .ok (.iload_n 1, 1) := by decide +kernel
theorem dX4_groups_15 : decode cX4_groups 15 = .ok (.aload_n 0, 1) := by decide +kernel
theorem dX4_groups_16 : decode cX4_groups 16 = .ok (.getfield 23, 3) := by decide +kernel
theorem dX4_groups_19 : decode cX4_groups 19 = .ok (.iload_n 2, 1) := by decide +kernel
theorem dX4_groups_20 : decode cX4_groups 20 = .ok (.iaload, 1) := by decide +kernel
theorem dX4_groups_21 : decode cX4_groups 21 = .ok (.iload_n 2, 1) := by decide +kernel
theorem dX4_groups_22 : decode cX4_groups 22 = .ok (.if_icmp .ne 7, 3) := by decide +kernel
theorem dX4_groups_25 : decode cX4_groups 25 = .ok (.iconst 1, 1) := by decide +kernel
theorem dX4_groups_26 : decode cX4_groups 26 = .ok (.goto 4, 3) := by decide +kernel
theorem dX4_groups_29 : decode cX4_groups 29 = .ok (.iconst 0, 1) := by decide +kernel
theorem dX4_groups_30 : decode cX4_groups 30 = .ok (.iadd, 1) := by decide +kernel
theorem dX4_groups_31 : decode cX4_groups 31 = .ok (.istore_n 1, 1) := by decide +kernel
theorem dX4_groups_32 : decode cX4_groups 32 = .ok (.iinc 2 1, 3) := by decide +kernel
theorem dX4_groups_35 : decode cX4_groups 35 = .ok (.goto (-31), 3) := by decide +kernel
theorem dX4_groups_38 : decode cX4_groups 38 = .ok (.iload_n 1, 1) := by decide +kernel
theorem dX4_groups_39 : decode cX4_groups 39 = .ok (.ireturn, 1) := by decide +kernel
set_option maxRecDepth 20000 in
theorem ggX4_told_X4_common : GoodIn wsX4_told wsX4_common := goodIn_r _ [10, 1, 11, 12, 13, 9, 14, 15, 16, 17, 18, 24, 25, 26, 27, 28, 29, 30, 31, 32, 33] (by decide +kernel) (by decide +kernel)
set_option maxRecDepth 20000 in
theorem gX4_told_X4_common : GoodIn wsX4_told (wsV RX4 114 RX4 yX4_common wsX4_common) := goodIn_app (goodIn_of _ (by decide +kernel)) ggX4_told_X4_common
set_option maxRecDepth 20000 in
theorem ggX4_told_X4_groups : GoodIn wsX4_told wsX4_groups := goodIn_r _ [22, 1, 23, 24, 25, 26, 27, 28, 29, 30, 31, 32, 33] (by decide +kernel) (by decide +kernel)
set_option maxRecDepth 20000 in
theorem gX4_told_X4_groups : GoodIn wsX4_told (wsV RX4 117 RX4 yX4_groups wsX4_groups) := goodIn_app (goodIn_of _ (by decide +kernel)) ggX4_told_X4_groups
theorem dX4_told_0 : decode cX4_told 0 = .ok (.iload_n 1, 1) := by decide +kernel
theorem dX4_told_1 : decode cX4_told 1 = .ok (.tableswitch 111 0 8 #[51, 58, 63, 70, 77, 82, 87, 92, 106], 51) := by decide +kernel
theorem dX4_told_52 : decode cX4_told 52 = .ok (.aload_n 0, 1) := by decide +kernel
theorem dX4_told_53 : decode cX4_told 53 = .ok (.getfield 7, 3) := by decide +kernel
theorem dX4_told_56 : decode cX4_told 56 = .ok (.iconst 0, 1) := by decide +kernel
theorem dX4_told_57 : decode cX4_told 57 = .ok (.iaload, 1) := by decide +kernel
theorem dX4_told_58 : decode cX4_told 58 = .ok (.ireturn, 1) := by decide +kernel
theorem dX4_told_59 : decode cX4_told 59 = .ok (.aload_n 0, 1) := by decide +kernel
theorem dX4_told_60 : decode cX4_told 60 = .ok (.getfield 35, 3) := by decide +kernel
theorem dX4_told_63 : decode cX4_told 63 = .ok (.ireturn, 1) := by decide +kernel
theorem dX4_told_64 : decode cX4_told 64 = .ok (.aload_n 0, 1) := by decide +kernel
theorem dX4_told_65 : decode cX4_told 65 = .ok (.getfield 7, 3) := by decide +kernel
theorem dX4_told_68 : decode cX4_told 68 = .ok (.iconst 1, 1) := by decide +kernel
theorem dX4_told_69 : decode cX4_told 69 = .ok (.iaload, 1) := by decide +kernel
theorem dX4_told_70 : decode cX4_told 70 = .ok (.ireturn, 1) := by decide +kernel
theorem dX4_told_71 : decode cX4_told 71 = .ok (.aload_n 0, 1) := by decide +kernel
theorem dX4_told_72 : decode cX4_told 72 = .ok (.getfield 7, 3) := by decide +kernel
theorem dX4_told_75 : decode cX4_told 75 = .ok (.iconst 2, 1) := by decide +kernel
theorem dX4_told_76 : decode cX4_told 76 = .ok (.iaload, 1) := by decide +kernel
theorem dX4_told_77 : decode cX4_told 77 = .ok (.ireturn, 1) := by decide +kernel
theorem dX4_told_78 : decode cX4_told 78 = .ok (.aload_n 0, 1) := by decide +kernel
theorem dX4_told_79 : decode cX4_told 79 = .ok (.invokevirtual 114, 3) := by decide +kernel
theorem dX4_told_82 : decode cX4_told 82 = .ok (.ireturn, 1) := by decide +kernel
theorem dX4_told_83 : decode cX4_told 83 = .ok (.aload_n 0, 1) := by decide +kernel
theorem dX4_told_84 : decode cX4_told 84 = .ok (.getfield 73, 3) := by decide +kernel
theorem dX4_told_87 : decode cX4_told 87 = .ok (.ireturn, 1) := by decide +kernel
theorem dX4_told_88 : decode cX4_told 88 = .ok (.aload_n 0, 1) := by decide +kernel
theorem dX4_told_89 : decode cX4_told 89 = .ok (.invokevirtual 117, 3) := by decide +kernel
theorem dX4_told_92 : decode cX4_told 92 = .ok (.ireturn, 1) := by decide +kernel
theorem dX4_told_93 : decode cX4_told 93 = .ok (.aload_n 0, 1) := by decide +kernel
theorem dX4_told_94 : decode cX4_told 94 = .ok (.invokevirtual 117, 3) := by decide +kernel
theorem dX4_told_97 : decode cX4_told 97 = .ok (.iconst 1, 1) := by decide +kernel
theorem dX4_told_98 : decode cX4_told 98 = .ok (.if_icmp .ne 7, 3) := by decide +kernel
theorem dX4_told_101 : decode cX4_told 101 = .ok (.iconst 1, 1) := by decide +kernel
theorem dX4_told_102 : decode cX4_told 102 = .ok (.goto 4, 3) := by decide +kernel
theorem dX4_told_105 : decode cX4_told 105 = .ok (.iconst 0, 1) := by decide +kernel
theorem dX4_told_106 : decode cX4_told 106 = .ok (.ireturn, 1) := by decide +kernel
theorem dX4_told_107 : decode cX4_told 107 = .ok (.aload_n 0, 1) := by decide +kernel
theorem dX4_told_108 : decode cX4_told 108 = .ok (.getfield 76, 3) := by decide +kernel
theorem dX4_told_111 : decode cX4_told 111 = .ok (.ireturn, 1) := by decide +kernel
theorem dX4_told_112 : decode cX4_told 112 = .ok (.ldc 83, 2) := by decide +kernel
theorem dX4_told_114 : decode cX4_told 114 = .ok (.ireturn, 1) := by decide +kernel
set_option maxRecDepth 20000 in
theorem ggX4_userOf_X4_isUser : GoodIn wsX4_userOf wsX4_isUser := goodIn_r _ [9, 3, 10, 11, 8, 12, 17, 18, 19, 20, 21, 22, 23, 24, 25, 26] (by decide +kernel) (by decide +kernel)
set_option maxRecDepth 20000 in
theorem gX4_userOf_X4_isUser : GoodIn wsX4_userOf (wsV RX4 47 RX4 yX4_isUser wsX4_isUser) := goodIn_app (goodIn_of _ (by decide +kernel)) ggX4_userOf_X4_isUser
set_option maxRecDepth 20000 in
theorem ggX4_userOf_X4_in : GoodIn wsX4_userOf wsX4_in := goodIn_r _ [12] (by decide +kernel) (by decide +kernel)
set_option maxRecDepth 20000 in
theorem gX4_userOf_X4_in : GoodIn wsX4_userOf (va_wsS RX4 43 yX4_in wsX4_in) := goodIn_app (goodIn_of _ (by decide +kernel)) ggX4_userOf_X4_in
set_option maxRecDepth 20000 in
theorem ggX4_userOf_X4_of : GoodIn wsX4_userOf wsX4_of := goodIn_r _ [16, 3, 17, 18, 19, 20, 21, 22, 23, 24, 25, 26] (by decide +kernel) (by decide +kernel)
set_option maxRecDepth 20000 in
theorem gX4_userOf_X4_of : GoodIn wsX4_userOf (wsV RX4 50 RX4 yX4_of wsX4_of) := goodIn_app (goodIn_of _ (by decide +kernel)) ggX4_userOf_X4_of
theorem dX4_userOf_0 : decode cX4_userOf 0 = .ok (.aload_n 0, 1) := by decide +kernel
theorem dX4_userOf_1 : decode cX4_userOf 1 = .ok (.iload_n 1, 1) := by decide +kernel
theorem dX4_userOf_2 : decode cX4_userOf 2 = .ok (.invokevirtual 47, 3) := by decide +kernel
theorem dX4_userOf_5 : decode cX4_userOf 5 = .ok (.ifCond .ne 6, 3) := by decide +kernel
theorem dX4_userOf_8 : decode cX4_userOf 8 = .ok (.ldc 96, 2) := by decide +kernel
theorem dX4_userOf_10 : decode cX4_userOf 10 = .ok (.ireturn, 1) := by decide +kernel
theorem dX4_userOf_11 : decode cX4_userOf 11 = .ok (.iload_n 2, 1) := by decide +kernel
theorem dX4_userOf_12 : decode cX4_userOf 12 = .ok (.iconst 0, 1) := by decide +kernel
theorem dX4_userOf_13 : decode cX4_userOf 13 = .ok (.bipush 6, 2) := by decide +kernel
theorem dX4_userOf_15 : decode cX4_userOf 15 = .ok (.invokestatic 43, 3) := by decide +kernel
theorem dX4_userOf_18 : decode cX4_userOf 18 = .ok (.ifCond .ne 6, 3) := by decide +kernel
theorem dX4_userOf_21 : decode cX4_userOf 21 = .ok (.ldc 83, 2) := by decide +kernel
theorem dX4_userOf_23 : decode cX4_userOf 23 = .ok (.ireturn, 1) := by decide +kernel
theorem dX4_userOf_24 : decode cX4_userOf 24 = .ok (.iload_n 2, 1) := by decide +kernel
theorem dX4_userOf_25 : decode cX4_userOf 25 = .ok (.iconst 5, 1) := by decide +kernel
theorem dX4_userOf_26 : decode cX4_userOf 26 = .ok (.if_icmp .ge 10, 3) := by decide +kernel
theorem dX4_userOf_29 : decode cX4_userOf 29 = .ok (.aload_n 0, 1) := by decide +kernel
theorem dX4_userOf_30 : decode cX4_userOf 30 = .ok (.iload_n 1, 1) := by decide +kernel
theorem dX4_userOf_31 : decode cX4_userOf 31 = .ok (.iload_n 2, 1) := by decide +kernel
theorem dX4_userOf_32 : decode cX4_userOf 32 = .ok (.invokevirtual 50, 3) := by decide +kernel
theorem dX4_userOf_35 : decode cX4_userOf 35 = .ok (.ireturn, 1) := by decide +kernel
theorem dX4_userOf_36 : decode cX4_userOf 36 = .ok (.iconst 0, 1) := by decide +kernel
theorem dX4_userOf_37 : decode cX4_userOf 37 = .ok (.istore_n 3, 1) := by decide +kernel
theorem dX4_userOf_38 : decode cX4_userOf 38 = .ok (.iconst 0, 1) := by decide +kernel
theorem dX4_userOf_39 : decode cX4_userOf 39 = .ok (.istore 4, 2) := by decide +kernel
theorem dX4_userOf_41 : decode cX4_userOf 41 = .ok (.iload 4, 2) := by decide +kernel
theorem dX4_userOf_43 : decode cX4_userOf 43 = .ok (.aload_n 0, 1) := by decide +kernel
theorem dX4_userOf_44 : decode cX4_userOf 44 = .ok (.getfield 7, 3) := by decide +kernel
theorem dX4_userOf_47 : decode cX4_userOf 47 = .ok (.iconst 1, 1) := by decide +kernel
theorem dX4_userOf_48 : decode cX4_userOf 48 = .ok (.iaload, 1) := by decide +kernel
theorem dX4_userOf_49 : decode cX4_userOf 49 = .ok (.if_icmp .ge 33, 3) := by decide +kernel
theorem dX4_userOf_52 : decode cX4_userOf 52 = .ok (.iload_n 3, 1) := by decide +kernel
theorem dX4_userOf_53 : decode cX4_userOf 53 = .ok (.aload_n 0, 1) := by decide +kernel
theorem dX4_userOf_54 : decode cX4_userOf 54 = .ok (.getfield 23, 3) := by decide +kernel
theorem dX4_userOf_57 : decode cX4_userOf 57 = .ok (.iload 4, 2) := by decide +kernel
theorem dX4_userOf_59 : decode cX4_userOf 59 = .ok (.iaload, 1) := by decide +kernel
theorem dX4_userOf_60 : decode cX4_userOf 60 = .ok (.aload_n 0, 1) := by decide +kernel
theorem dX4_userOf_61 : decode cX4_userOf 61 = .ok (.getfield 23, 3) := by decide +kernel
theorem dX4_userOf_64 : decode cX4_userOf 64 = .ok (.iload_n 1, 1) := by decide +kernel
theorem dX4_userOf_65 : decode cX4_userOf 65 = .ok (.iaload, 1) := by decide +kernel
theorem dX4_userOf_66 : decode cX4_userOf 66 = .ok (.if_icmp .ne 7, 3) := by decide +kernel
theorem dX4_userOf_69 : decode cX4_userOf 69 = .ok (.iconst 1, 1) := by decide +kernel
theorem dX4_userOf_70 : decode cX4_userOf 70 = .ok (.goto 4, 3) := by decide +kernel
theorem dX4_userOf_73 : decode cX4_userOf 73 = .ok (.iconst 0, 1) := by decide +kernel
theorem dX4_userOf_74 : decode cX4_userOf 74 = .ok (.iadd, 1) := by decide +kernel
theorem dX4_userOf_75 : decode cX4_userOf 75 = .ok (.istore_n 3, 1) := by decide +kernel
theorem dX4_userOf_76 : decode cX4_userOf 76 = .ok (.iinc 4 1, 3) := by decide +kernel
theorem dX4_userOf_79 : decode cX4_userOf 79 = .ok (.goto (-38), 3) := by decide +kernel
theorem dX4_userOf_82 : decode cX4_userOf 82 = .ok (.iload_n 2, 1) := by decide +kernel
theorem dX4_userOf_83 : decode cX4_userOf 83 = .ok (.iconst 5, 1) := by decide +kernel
theorem dX4_userOf_84 : decode cX4_userOf 84 = .ok (.if_icmp .ne 12, 3) := by decide +kernel
theorem dX4_userOf_87 : decode cX4_userOf 87 = .ok (.aload_n 0, 1) := by decide +kernel
theorem dX4_userOf_88 : decode cX4_userOf 88 = .ok (.getfield 23, 3) := by decide +kernel
theorem dX4_userOf_91 : decode cX4_userOf 91 = .ok (.iload_n 1, 1) := by decide +kernel
theorem dX4_userOf_92 : decode cX4_userOf 92 = .ok (.iaload, 1) := by decide +kernel
theorem dX4_userOf_93 : decode cX4_userOf 93 = .ok (.goto 4, 3) := by decide +kernel
theorem dX4_userOf_96 : decode cX4_userOf 96 = .ok (.iload_n 3, 1) := by decide +kernel
theorem dX4_userOf_97 : decode cX4_userOf 97 = .ok (.ireturn, 1) := by decide +kernel
set_option maxRecDepth 20000 in
theorem ggX4_pointsAt_X4_isUser : GoodIn wsX4_pointsAt wsX4_isUser := goodIn_r _ [7, 8, 9, 10, 6, 11, 21, 22, 23, 24, 25, 26, 27, 28, 29, 30] (by decide +kernel) (by decide +kernel)
set_option maxRecDepth 20000 in
theorem gX4_pointsAt_X4_isUser : GoodIn wsX4_pointsAt (wsV RX4 47 RX4 yX4_isUser wsX4_isUser) := goodIn_app (goodIn_of _ (by decide +kernel)) ggX4_pointsAt_X4_isUser
set_option maxRecDepth 20000 in
theorem ggX4_pointsAt_X4_in : GoodIn wsX4_pointsAt wsX4_in := goodIn_r _ [11] (by decide +kernel) (by decide +kernel)
set_option maxRecDepth 20000 in
theorem gX4_pointsAt_X4_in : GoodIn wsX4_pointsAt (va_wsS RX4 43 yX4_in wsX4_in) := goodIn_app (goodIn_of _ (by decide +kernel)) ggX4_pointsAt_X4_in
set_option maxRecDepth 20000 in
theorem ggX4_pointsAt_X4_of : GoodIn wsX4_pointsAt wsX4_of := goodIn_r _ [15, 8, 21, 22, 23, 24, 25, 26, 27, 28, 29, 30] (by decide +kernel) (by decide +kernel)
set_option maxRecDepth 20000 in
theorem gX4_pointsAt_X4_of : GoodIn wsX4_pointsAt (wsV RX4 50 RX4 yX4_of wsX4_of) := goodIn_app (goodIn_of _ (by decide +kernel)) ggX4_pointsAt_X4_of
set_option maxRecDepth 20000 in
theorem ggX4_pointsAt_X4_points : GoodIn wsX4_pointsAt wsX4_points := goodIn_r _ [19, 8, 20, 12, 13, 14, 6, 15, 21, 22, 23, 24, 25, 26, 27, 28, 29, 30] (by decide +kernel) (by decide +kernel)
set_option maxRecDepth 20000 in
theorem gX4_pointsAt_X4_points : GoodIn wsX4_pointsAt (wsV RX4 54 RX4 yX4_points wsX4_points) := goodIn_app (goodIn_of _ (by decide +kernel)) ggX4_pointsAt_X4_points
theorem dX4_pointsAt_0 : decode cX4_pointsAt 0 = .ok (.aload_n 0, 1) := by decide +kernel
theorem dX4_pointsAt_1 : decode cX4_pointsAt 1 = .ok (.iload_n 1, 1) := by decide +kernel
theorem dX4_pointsAt_2 : decode cX4_pointsAt 2 = .ok (.invokevirtual 47, 3) := by decide +kernel
theorem dX4_pointsAt_5 : decode cX4_pointsAt 5 = .ok (.ifCond .ne 6, 3) := by decide +kernel
theorem dX4_pointsAt_8 : decode cX4_pointsAt 8 = .ok (.ldc 96, 2) := by decide +kernel
theorem dX4_pointsAt_10 : decode cX4_pointsAt 10 = .ok (.ireturn, 1) := by decide +kernel
theorem dX4_pointsAt_11 : decode cX4_pointsAt 11 = .ok (.iload_n 2, 1) := by decide +kernel
theorem dX4_pointsAt_12 : decode cX4_pointsAt 12 = .ok (.iconst 0, 1) := by decide +kernel
theorem dX4_pointsAt_13 : decode cX4_pointsAt 13 = .ok (.sipush 3000, 3) := by decide +kernel
theorem dX4_pointsAt_16 : decode cX4_pointsAt 16 = .ok (.invokestatic 43, 3) := by decide +kernel
theorem dX4_pointsAt_19 : decode cX4_pointsAt 19 = .ok (.ifCond .ne 6, 3) := by decide +kernel
theorem dX4_pointsAt_22 : decode cX4_pointsAt 22 = .ok (.ldc 83, 2) := by decide +kernel
theorem dX4_pointsAt_24 : decode cX4_pointsAt 24 = .ok (.ireturn, 1) := by decide +kernel
theorem dX4_pointsAt_25 : decode cX4_pointsAt 25 = .ok (.iload_n 2, 1) := by decide +kernel
theorem dX4_pointsAt_26 : decode cX4_pointsAt 26 = .ok (.aload_n 0, 1) := by decide +kernel
theorem dX4_pointsAt_27 : decode cX4_pointsAt 27 = .ok (.iload_n 1, 1) := by decide +kernel
theorem dX4_pointsAt_28 : decode cX4_pointsAt 28 = .ok (.iconst 3, 1) := by decide +kernel
theorem dX4_pointsAt_29 : decode cX4_pointsAt 29 = .ok (.invokevirtual 50, 3) := by decide +kernel
theorem dX4_pointsAt_32 : decode cX4_pointsAt 32 = .ok (.if_icmp .ge 7, 3) := by decide +kernel
theorem dX4_pointsAt_35 : decode cX4_pointsAt 35 = .ok (.iconst (-1), 1) := by decide +kernel
theorem dX4_pointsAt_36 : decode cX4_pointsAt 36 = .ok (.goto 16, 3) := by decide +kernel
theorem dX4_pointsAt_39 : decode cX4_pointsAt 39 = .ok (.aload_n 0, 1) := by decide +kernel
theorem dX4_pointsAt_40 : decode cX4_pointsAt 40 = .ok (.iload_n 1, 1) := by decide +kernel
theorem dX4_pointsAt_41 : decode cX4_pointsAt 41 = .ok (.iload_n 2, 1) := by decide +kernel
theorem dX4_pointsAt_42 : decode cX4_pointsAt 42 = .ok (.aload_n 0, 1) := by decide +kernel
theorem dX4_pointsAt_43 : decode cX4_pointsAt 43 = .ok (.iload_n 1, 1) := by decide +kernel
theorem dX4_pointsAt_44 : decode cX4_pointsAt 44 = .ok (.iconst 3, 1) := by decide +kernel
theorem dX4_pointsAt_45 : decode cX4_pointsAt 45 = .ok (.invokevirtual 50, 3) := by decide +kernel
theorem dX4_pointsAt_48 : decode cX4_pointsAt 48 = .ok (.isub, 1) := by decide +kernel
theorem dX4_pointsAt_49 : decode cX4_pointsAt 49 = .ok (.invokevirtual 54, 3) := by decide +kernel
theorem dX4_pointsAt_52 : decode cX4_pointsAt 52 = .ok (.ireturn, 1) := by decide +kernel
set_option maxRecDepth 20000 in
theorem ggX4_on_X4_isUser : GoodIn wsX4_on wsX4_isUser := goodIn_r _ [7, 8, 9, 10, 6, 11, 40, 41, 42, 43, 44, 45, 46, 47, 48, 49] (by decide +kernel) (by decide +kernel)
set_option maxRecDepth 20000 in
theorem gX4_on_X4_isUser : GoodIn wsX4_on (wsV RX4 47 RX4 yX4_isUser wsX4_isUser) := goodIn_app (goodIn_of _ (by decide +kernel)) ggX4_on_X4_isUser
set_option maxRecDepth 20000 in
theorem ggX4_on_X4_in : GoodIn wsX4_on wsX4_in := goodIn_r _ [11] (by decide +kernel) (by decide +kernel)
set_option maxRecDepth 20000 in
theorem gX4_on_X4_in : GoodIn wsX4_on (va_wsS RX4 43 yX4_in wsX4_in) := goodIn_app (goodIn_of _ (by decide +kernel)) ggX4_on_X4_in
set_option maxRecDepth 20000 in
theorem ggX4_on_X4_place : GoodIn wsX4_on wsX4_place := goodIn_r _ [15, 16, 17, 18, 6, 19, 20, 21, 22, 23, 8, 24, 25, 26, 27, 28, 29, 30, 31, 32, 33, 34, 35, 36, 37, 38, 39, 9, 10, 11, 40, 41, 42, 43, 44, 45, 46, 47, 48, 49] (by decide +kernel) (by decide +kernel)
set_option maxRecDepth 20000 in
theorem gX4_on_X4_place : GoodIn wsX4_on (wsV RX4 70 RX4 yX4_place wsX4_place) := goodIn_app (goodIn_of _ (by decide +kernel)) ggX4_on_X4_place
theorem dX4_on_0 : decode cX4_on 0 = .ok (.aload_n 0, 1) := by decide +kernel
theorem dX4_on_1 : decode cX4_on 1 = .ok (.iload_n 1, 1) := by decide +kernel
theorem dX4_on_2 : decode cX4_on 2 = .ok (.invokevirtual 47, 3) := by decide +kernel
theorem dX4_on_5 : decode cX4_on 5 = .ok (.ifCond .ne 6, 3) := by decide +kernel
theorem dX4_on_8 : decode cX4_on 8 = .ok (.ldc 96, 2) := by decide +kernel
theorem dX4_on_10 : decode cX4_on 10 = .ok (.ireturn, 1) := by decide +kernel
theorem dX4_on_11 : decode cX4_on 11 = .ok (.iload_n 2, 1) := by decide +kernel
theorem dX4_on_12 : decode cX4_on 12 = .ok (.iconst 0, 1) := by decide +kernel
theorem dX4_on_13 : decode cX4_on 13 = .ok (.sipush 3000, 3) := by decide +kernel
theorem dX4_on_16 : decode cX4_on 16 = .ok (.invokestatic 43, 3) := by decide +kernel
theorem dX4_on_19 : decode cX4_on 19 = .ok (.ifCond .eq 12, 3) := by decide +kernel
theorem dX4_on_22 : decode cX4_on 22 = .ok (.aload_n 0, 1) := by decide +kernel
theorem dX4_on_23 : decode cX4_on 23 = .ok (.iload_n 1, 1) := by decide +kernel
theorem dX4_on_24 : decode cX4_on 24 = .ok (.iload_n 2, 1) := by decide +kernel
theorem dX4_on_25 : decode cX4_on 25 = .ok (.invokevirtual 70, 3) := by decide +kernel
theorem dX4_on_28 : decode cX4_on 28 = .ok (.goto 5, 3) := by decide +kernel
theorem dX4_on_31 : decode cX4_on 31 = .ok (.ldc 83, 2) := by decide +kernel
theorem dX4_on_33 : decode cX4_on 33 = .ok (.ireturn, 1) := by decide +kernel
set_option maxRecDepth 20000 in
theorem ggX4_why_X4_isUser : GoodIn wsX4_why wsX4_isUser := goodIn_r _ [7, 8, 9, 10, 6, 11, 36, 37, 38, 39, 40, 41, 42, 43, 44, 45] (by decide +kernel) (by decide +kernel)
set_option maxRecDepth 20000 in
theorem gX4_why_X4_isUser : GoodIn wsX4_why (wsV RX4 47 RX4 yX4_isUser wsX4_isUser) := goodIn_app (goodIn_of _ (by decide +kernel)) ggX4_why_X4_isUser
set_option maxRecDepth 20000 in
theorem ggX4_why_X4_in : GoodIn wsX4_why wsX4_in := goodIn_r _ [11] (by decide +kernel) (by decide +kernel)
set_option maxRecDepth 20000 in
theorem gX4_why_X4_in : GoodIn wsX4_why (va_wsS RX4 43 yX4_in wsX4_in) := goodIn_app (goodIn_of _ (by decide +kernel)) ggX4_why_X4_in
set_option maxRecDepth 20000 in
theorem ggX4_why_X4_whyNot : GoodIn wsX4_why wsX4_whyNot := goodIn_r _ [15, 16, 17, 18, 6, 19, 8, 20, 21, 22, 23, 24, 25, 26, 27, 28, 29, 30, 31, 32, 33, 34, 35, 9, 10, 11, 36, 37, 38, 39, 40, 41, 42, 43, 44, 45] (by decide +kernel) (by decide +kernel)
set_option maxRecDepth 20000 in
theorem gX4_why_X4_whyNot : GoodIn wsX4_why (wsV RX4 67 RX4 yX4_whyNot wsX4_whyNot) := goodIn_app (goodIn_of _ (by decide +kernel)) ggX4_why_X4_whyNot
theorem dX4_why_0 : decode cX4_why 0 = .ok (.aload_n 0, 1) := by decide +kernel
theorem dX4_why_1 : decode cX4_why 1 = .ok (.iload_n 1, 1) := by decide +kernel
theorem dX4_why_2 : decode cX4_why 2 = .ok (.invokevirtual 47, 3) := by decide +kernel
theorem dX4_why_5 : decode cX4_why 5 = .ok (.ifCond .ne 6, 3) := by decide +kernel
theorem dX4_why_8 : decode cX4_why 8 = .ok (.ldc 96, 2) := by decide +kernel
theorem dX4_why_10 : decode cX4_why 10 = .ok (.ireturn, 1) := by decide +kernel
theorem dX4_why_11 : decode cX4_why 11 = .ok (.iload_n 2, 1) := by decide +kernel
theorem dX4_why_12 : decode cX4_why 12 = .ok (.iconst 0, 1) := by decide +kernel
theorem dX4_why_13 : decode cX4_why 13 = .ok (.sipush 3000, 3) := by decide +kernel
theorem dX4_why_16 : decode cX4_why 16 = .ok (.invokestatic 43, 3) := by decide +kernel
theorem dX4_why_19 : decode cX4_why 19 = .ok (.ifCond .eq 12, 3) := by decide +kernel
theorem dX4_why_22 : decode cX4_why 22 = .ok (.aload_n 0, 1) := by decide +kernel
theorem dX4_why_23 : decode cX4_why 23 = .ok (.iload_n 1, 1) := by decide +kernel
theorem dX4_why_24 : decode cX4_why 24 = .ok (.iload_n 2, 1) := by decide +kernel
theorem dX4_why_25 : decode cX4_why 25 = .ok (.invokevirtual 67, 3) := by decide +kernel
theorem dX4_why_28 : decode cX4_why 28 = .ok (.goto 5, 3) := by decide +kernel
theorem dX4_why_31 : decode cX4_why 31 = .ok (.ldc 83, 2) := by decide +kernel
theorem dX4_why_33 : decode cX4_why 33 = .ok (.ireturn, 1) := by decide +kernel
set_option maxRecDepth 20000 in
theorem ggX4_first_X4_areTwo : GoodIn wsX4_first wsX4_areTwo := goodIn_r _ [6, 7, 8, 9, 5, 10, 11, 12, 13, 14, 47, 48, 49, 50, 51, 52, 53, 54, 55, 56] (by decide +kernel) (by decide +kernel)
set_option maxRecDepth 20000 in
theorem gX4_first_X4_areTwo : GoodIn wsX4_first (wsV RX4 120 RX4 yX4_areTwo wsX4_areTwo) := goodIn_app (goodIn_of _ (by decide +kernel)) ggX4_first_X4_areTwo
set_option maxRecDepth 20000 in
theorem ggX4_first_X4_isMet : GoodIn wsX4_first wsX4_isMet := goodIn_r _ [18, 19, 20, 21, 5, 22, 23, 24, 25, 26, 27, 28, 29, 30, 11, 31, 32, 33, 34, 35, 36, 37, 38, 39, 40, 41, 42, 43, 44, 45, 46, 12, 13, 14, 47, 48, 49, 50, 51, 52, 53, 54, 55, 56] (by decide +kernel) (by decide +kernel)
set_option maxRecDepth 20000 in
theorem gX4_first_X4_isMet : GoodIn wsX4_first (wsV RX4 123 RX4 yX4_isMet wsX4_isMet) := goodIn_app (goodIn_of _ (by decide +kernel)) ggX4_first_X4_isMet
theorem dX4_first_0 : decode cX4_first 0 = .ok (.aload_n 0, 1) := by decide +kernel
theorem dX4_first_1 : decode cX4_first 1 = .ok (.iload_n 1, 1) := by decide +kernel
theorem dX4_first_2 : decode cX4_first 2 = .ok (.iload_n 2, 1) := by decide +kernel
theorem dX4_first_3 : decode cX4_first 3 = .ok (.invokevirtual 120, 3) := by decide +kernel
theorem dX4_first_6 : decode cX4_first 6 = .ok (.ifCond .ne 6, 3) := by decide +kernel
theorem dX4_first_9 : decode cX4_first 9 = .ok (.ldc 96, 2) := by decide +kernel
theorem dX4_first_11 : decode cX4_first 11 = .ok (.ireturn, 1) := by decide +kernel
theorem dX4_first_12 : decode cX4_first 12 = .ok (.iconst 0, 1) := by decide +kernel
theorem dX4_first_13 : decode cX4_first 13 = .ok (.istore_n 3, 1) := by decide +kernel
theorem dX4_first_14 : decode cX4_first 14 = .ok (.iload_n 3, 1) := by decide +kernel
theorem dX4_first_15 : decode cX4_first 15 = .ok (.sipush 1500, 3) := by decide +kernel
theorem dX4_first_18 : decode cX4_first 18 = .ok (.if_icmp .ge 19, 3) := by decide +kernel
theorem dX4_first_21 : decode cX4_first 21 = .ok (.aload_n 0, 1) := by decide +kernel
theorem dX4_first_22 : decode cX4_first 22 = .ok (.iload_n 1, 1) := by decide +kernel
theorem dX4_first_23 : decode cX4_first 23 = .ok (.iload_n 2, 1) := by decide +kernel
theorem dX4_first_24 : decode cX4_first 24 = .ok (.iload_n 3, 1) := by decide +kernel
theorem dX4_first_25 : decode cX4_first 25 = .ok (.invokevirtual 123, 3) := by decide +kernel
theorem dX4_first_28 : decode cX4_first 28 = .ok (.ifCond .ne 9, 3) := by decide +kernel
theorem dX4_first_31 : decode cX4_first 31 = .ok (.iinc 3 1, 3) := by decide +kernel
theorem dX4_first_34 : decode cX4_first 34 = .ok (.goto (-20), 3) := by decide +kernel
theorem dX4_first_37 : decode cX4_first 37 = .ok (.iload_n 3, 1) := by decide +kernel
theorem dX4_first_38 : decode cX4_first 38 = .ok (.sipush 1500, 3) := by decide +kernel
theorem dX4_first_41 : decode cX4_first 41 = .ok (.if_icmp .ge 7, 3) := by decide +kernel
theorem dX4_first_44 : decode cX4_first 44 = .ok (.iload_n 3, 1) := by decide +kernel
theorem dX4_first_45 : decode cX4_first 45 = .ok (.goto 4, 3) := by decide +kernel
theorem dX4_first_48 : decode cX4_first 48 = .ok (.iconst (-1), 1) := by decide +kernel
theorem dX4_first_49 : decode cX4_first 49 = .ok (.ireturn, 1) := by decide +kernel
set_option maxRecDepth 20000 in
theorem ggX4_worstOf_X4_of : GoodIn wsX4_worstOf wsX4_of := goodIn_r _ [6, 7, 20, 21, 22, 23, 24, 25, 26, 27, 28, 29] (by decide +kernel) (by decide +kernel)
set_option maxRecDepth 20000 in
theorem gX4_worstOf_X4_of : GoodIn wsX4_worstOf (wsV RX4 50 RX4 yX4_of wsX4_of) := goodIn_app (goodIn_of _ (by decide +kernel)) ggX4_worstOf_X4_of
set_option maxRecDepth 20000 in
theorem ggX4_worstOf_X4_lands : GoodIn wsX4_worstOf wsX4_lands := goodIn_r _ [11, 2, 3, 4, 5, 6, 7, 12, 13, 14, 15, 16, 17, 18, 19, 20, 21, 22, 23, 24, 25, 26, 27, 28, 29] (by decide +kernel) (by decide +kernel)
set_option maxRecDepth 20000 in
theorem gX4_worstOf_X4_lands : GoodIn wsX4_worstOf (wsV RX4 61 RX4 yX4_lands wsX4_lands) := goodIn_app (goodIn_of _ (by decide +kernel)) ggX4_worstOf_X4_lands
theorem dX4_worstOf_0 : decode cX4_worstOf 0 = .ok (.iconst 0, 1) := by decide +kernel
theorem dX4_worstOf_1 : decode cX4_worstOf 1 = .ok (.istore 4, 2) := by decide +kernel
theorem dX4_worstOf_3 : decode cX4_worstOf 3 = .ok (.iconst 0, 1) := by decide +kernel
theorem dX4_worstOf_4 : decode cX4_worstOf 4 = .ok (.istore 5, 2) := by decide +kernel
theorem dX4_worstOf_6 : decode cX4_worstOf 6 = .ok (.iload 5, 2) := by decide +kernel
theorem dX4_worstOf_8 : decode cX4_worstOf 8 = .ok (.iload_n 3, 1) := by decide +kernel
theorem dX4_worstOf_9 : decode cX4_worstOf 9 = .ok (.if_icmp .gt 84, 3) := by decide +kernel
theorem dX4_worstOf_12 : decode cX4_worstOf 12 = .ok (.iconst 0, 1) := by decide +kernel
theorem dX4_worstOf_13 : decode cX4_worstOf 13 = .ok (.istore 6, 2) := by decide +kernel
theorem dX4_worstOf_15 : decode cX4_worstOf 15 = .ok (.iload 6, 2) := by decide +kernel
theorem dX4_worstOf_17 : decode cX4_worstOf 17 = .ok (.sipush 1500, 3) := by decide +kernel
theorem dX4_worstOf_20 : decode cX4_worstOf 20 = .ok (.if_icmp .ge 38, 3) := by decide +kernel
theorem dX4_worstOf_23 : decode cX4_worstOf 23 = .ok (.aload_n 0, 1) := by decide +kernel
theorem dX4_worstOf_24 : decode cX4_worstOf 24 = .ok (.iload_n 1, 1) := by decide +kernel
theorem dX4_worstOf_25 : decode cX4_worstOf 25 = .ok (.iconst 4, 1) := by decide +kernel
theorem dX4_worstOf_26 : decode cX4_worstOf 26 = .ok (.invokevirtual 50, 3) := by decide +kernel
theorem dX4_worstOf_29 : decode cX4_worstOf 29 = .ok (.ifCond .eq 23, 3) := by decide +kernel
theorem dX4_worstOf_32 : decode cX4_worstOf 32 = .ok (.aload_n 0, 1) := by decide +kernel
theorem dX4_worstOf_33 : decode cX4_worstOf 33 = .ok (.iload_n 1, 1) := by decide +kernel
theorem dX4_worstOf_34 : decode cX4_worstOf 34 = .ok (.iload 6, 2) := by decide +kernel
theorem dX4_worstOf_36 : decode cX4_worstOf 36 = .ok (.iload 5, 2) := by decide +kernel
theorem dX4_worstOf_38 : decode cX4_worstOf 38 = .ok (.iadd, 1) := by decide +kernel
theorem dX4_worstOf_39 : decode cX4_worstOf 39 = .ok (.invokevirtual 61, 3) := by decide +kernel
theorem dX4_worstOf_42 : decode cX4_worstOf 42 = .ok (.aload_n 0, 1) := by decide +kernel
theorem dX4_worstOf_43 : decode cX4_worstOf 43 = .ok (.iload_n 2, 1) := by decide +kernel
theorem dX4_worstOf_44 : decode cX4_worstOf 44 = .ok (.iload 6, 2) := by decide +kernel
theorem dX4_worstOf_46 : decode cX4_worstOf 46 = .ok (.invokevirtual 61, 3) := by decide +kernel
theorem dX4_worstOf_49 : decode cX4_worstOf 49 = .ok (.if_icmp .eq 9, 3) := by decide +kernel
theorem dX4_worstOf_52 : decode cX4_worstOf 52 = .ok (.iinc 6 1, 3) := by decide +kernel
theorem dX4_worstOf_55 : decode cX4_worstOf 55 = .ok (.goto (-40), 3) := by decide +kernel
theorem dX4_worstOf_58 : decode cX4_worstOf 58 = .ok (.iload 6, 2) := by decide +kernel
theorem dX4_worstOf_60 : decode cX4_worstOf 60 = .ok (.sipush 1500, 3) := by decide +kernel
theorem dX4_worstOf_63 : decode cX4_worstOf 63 = .ok (.if_icmp .ne 8, 3) := by decide +kernel
theorem dX4_worstOf_66 : decode cX4_worstOf 66 = .ok (.ldc 126, 2) := by decide +kernel
theorem dX4_worstOf_68 : decode cX4_worstOf 68 = .ok (.goto 17, 3) := by decide +kernel
theorem dX4_worstOf_71 : decode cX4_worstOf 71 = .ok (.iload 6, 2) := by decide +kernel
theorem dX4_worstOf_73 : decode cX4_worstOf 73 = .ok (.iload 4, 2) := by decide +kernel
theorem dX4_worstOf_75 : decode cX4_worstOf 75 = .ok (.if_icmp .le 8, 3) := by decide +kernel
theorem dX4_worstOf_78 : decode cX4_worstOf 78 = .ok (.iload 6, 2) := by decide +kernel
theorem dX4_worstOf_80 : decode cX4_worstOf 80 = .ok (.goto 5, 3) := by decide +kernel
theorem dX4_worstOf_83 : decode cX4_worstOf 83 = .ok (.iload 4, 2) := by decide +kernel
theorem dX4_worstOf_85 : decode cX4_worstOf 85 = .ok (.istore 4, 2) := by decide +kernel
theorem dX4_worstOf_87 : decode cX4_worstOf 87 = .ok (.iinc 5 1, 3) := by decide +kernel
theorem dX4_worstOf_90 : decode cX4_worstOf 90 = .ok (.goto (-84), 3) := by decide +kernel
theorem dX4_worstOf_93 : decode cX4_worstOf 93 = .ok (.iload 4, 2) := by decide +kernel
theorem dX4_worstOf_95 : decode cX4_worstOf 95 = .ok (.ireturn, 1) := by decide +kernel
set_option maxRecDepth 20000 in
theorem ggX4_worst_X4_areTwo : GoodIn wsX4_worst wsX4_areTwo := goodIn_r _ [7, 8, 9, 10, 6, 11, 12, 13, 14, 15, 37, 38, 39, 40, 41, 42, 43, 44, 45, 46] (by decide +kernel) (by decide +kernel)
set_option maxRecDepth 20000 in
theorem gX4_worst_X4_areTwo : GoodIn wsX4_worst (wsV RX4 120 RX4 yX4_areTwo wsX4_areTwo) := goodIn_app (goodIn_of _ (by decide +kernel)) ggX4_worst_X4_areTwo
set_option maxRecDepth 20000 in
theorem ggX4_worst_X4_in : GoodIn wsX4_worst wsX4_in := goodIn_r _ [15] (by decide +kernel) (by decide +kernel)
set_option maxRecDepth 20000 in
theorem gX4_worst_X4_in : GoodIn wsX4_worst (va_wsS RX4 43 yX4_in wsX4_in) := goodIn_app (goodIn_of _ (by decide +kernel)) ggX4_worst_X4_in
set_option maxRecDepth 20000 in
theorem ggX4_worst_X4_worstOf : GoodIn wsX4_worst wsX4_worstOf := goodIn_r _ [19, 20, 21, 22, 23, 6, 24, 12, 25, 26, 27, 28, 29, 30, 31, 32, 33, 34, 35, 36, 37, 38, 39, 40, 41, 42, 43, 44, 45, 46] (by decide +kernel) (by decide +kernel)
set_option maxRecDepth 20000 in
theorem gX4_worst_X4_worstOf : GoodIn wsX4_worst (wsV RX4 127 RX4 yX4_worstOf wsX4_worstOf) := goodIn_app (goodIn_of _ (by decide +kernel)) ggX4_worst_X4_worstOf
theorem dX4_worst_0 : decode cX4_worst 0 = .ok (.aload_n 0, 1) := by decide +kernel
theorem dX4_worst_1 : decode cX4_worst 1 = .ok (.iload_n 1, 1) := by decide +kernel
theorem dX4_worst_2 : decode cX4_worst 2 = .ok (.iload_n 2, 1) := by decide +kernel
theorem dX4_worst_3 : decode cX4_worst 3 = .ok (.invokevirtual 120, 3) := by decide +kernel
theorem dX4_worst_6 : decode cX4_worst 6 = .ok (.ifCond .ne 6, 3) := by decide +kernel
theorem dX4_worst_9 : decode cX4_worst 9 = .ok (.ldc 96, 2) := by decide +kernel
theorem dX4_worst_11 : decode cX4_worst 11 = .ok (.ireturn, 1) := by decide +kernel
theorem dX4_worst_12 : decode cX4_worst 12 = .ok (.iload_n 3, 1) := by decide +kernel
theorem dX4_worst_13 : decode cX4_worst 13 = .ok (.iconst 0, 1) := by decide +kernel
theorem dX4_worst_14 : decode cX4_worst 14 = .ok (.sipush 200, 3) := by decide +kernel
theorem dX4_worst_17 : decode cX4_worst 17 = .ok (.invokestatic 43, 3) := by decide +kernel
theorem dX4_worst_20 : decode cX4_worst 20 = .ok (.ifCond .eq 13, 3) := by decide +kernel
theorem dX4_worst_23 : decode cX4_worst 23 = .ok (.aload_n 0, 1) := by decide +kernel
theorem dX4_worst_24 : decode cX4_worst 24 = .ok (.iload_n 1, 1) := by decide +kernel
theorem dX4_worst_25 : decode cX4_worst 25 = .ok (.iload_n 2, 1) := by decide +kernel
theorem dX4_worst_26 : decode cX4_worst 26 = .ok (.iload_n 3, 1) := by decide +kernel
theorem dX4_worst_27 : decode cX4_worst 27 = .ok (.invokevirtual 127, 3) := by decide +kernel
theorem dX4_worst_30 : decode cX4_worst 30 = .ok (.goto 5, 3) := by decide +kernel
theorem dX4_worst_33 : decode cX4_worst 33 = .ok (.ldc 83, 2) := by decide +kernel
theorem dX4_worst_35 : decode cX4_worst 35 = .ok (.ireturn, 1) := by decide +kernel
set_option maxRecDepth 20000 in
theorem ggX4_bound_X4_areTwo : GoodIn wsX4_bound wsX4_areTwo := goodIn_r _ [7, 8, 9, 10, 6, 11, 12, 13, 14, 15, 37, 38, 39, 40, 41, 42, 43, 44, 45, 46] (by decide +kernel) (by decide +kernel)
set_option maxRecDepth 20000 in
theorem gX4_bound_X4_areTwo : GoodIn wsX4_bound (wsV RX4 120 RX4 yX4_areTwo wsX4_areTwo) := goodIn_app (goodIn_of _ (by decide +kernel)) ggX4_bound_X4_areTwo
set_option maxRecDepth 20000 in
theorem ggX4_bound_X4_in : GoodIn wsX4_bound wsX4_in := goodIn_r _ [15] (by decide +kernel) (by decide +kernel)
set_option maxRecDepth 20000 in
theorem gX4_bound_X4_in : GoodIn wsX4_bound (va_wsS RX4 43 yX4_in wsX4_in) := goodIn_app (goodIn_of _ (by decide +kernel)) ggX4_bound_X4_in
set_option maxRecDepth 20000 in
theorem ggX4_bound_X4_worstOf : GoodIn wsX4_bound wsX4_worstOf := goodIn_r _ [19, 20, 21, 22, 23, 6, 24, 12, 25, 26, 27, 28, 29, 30, 31, 32, 33, 34, 35, 36, 37, 38, 39, 40, 41, 42, 43, 44, 45, 46] (by decide +kernel) (by decide +kernel)
set_option maxRecDepth 20000 in
theorem gX4_bound_X4_worstOf : GoodIn wsX4_bound (wsV RX4 127 RX4 yX4_worstOf wsX4_worstOf) := goodIn_app (goodIn_of _ (by decide +kernel)) ggX4_bound_X4_worstOf
theorem dX4_bound_0 : decode cX4_bound 0 = .ok (.aload_n 0, 1) := by decide +kernel
theorem dX4_bound_1 : decode cX4_bound 1 = .ok (.iload_n 1, 1) := by decide +kernel
theorem dX4_bound_2 : decode cX4_bound 2 = .ok (.iload_n 2, 1) := by decide +kernel
theorem dX4_bound_3 : decode cX4_bound 3 = .ok (.invokevirtual 120, 3) := by decide +kernel
theorem dX4_bound_6 : decode cX4_bound 6 = .ok (.ifCond .ne 6, 3) := by decide +kernel
theorem dX4_bound_9 : decode cX4_bound 9 = .ok (.ldc 96, 2) := by decide +kernel
theorem dX4_bound_11 : decode cX4_bound 11 = .ok (.ireturn, 1) := by decide +kernel
theorem dX4_bound_12 : decode cX4_bound 12 = .ok (.iload_n 3, 1) := by decide +kernel
theorem dX4_bound_13 : decode cX4_bound 13 = .ok (.iconst 0, 1) := by decide +kernel
theorem dX4_bound_14 : decode cX4_bound 14 = .ok (.sipush 200, 3) := by decide +kernel
theorem dX4_bound_17 : decode cX4_bound 17 = .ok (.invokestatic 43, 3) := by decide +kernel
theorem dX4_bound_20 : decode cX4_bound 20 = .ok (.ifCond .eq 15, 3) := by decide +kernel
theorem dX4_bound_23 : decode cX4_bound 23 = .ok (.iload 4, 2) := by decide +kernel
theorem dX4_bound_25 : decode cX4_bound 25 = .ok (.iconst 0, 1) := by decide +kernel
theorem dX4_bound_26 : decode cX4_bound 26 = .ok (.sipush 1500, 3) := by decide +kernel
theorem dX4_bound_29 : decode cX4_bound 29 = .ok (.invokestatic 43, 3) := by decide +kernel
theorem dX4_bound_32 : decode cX4_bound 32 = .ok (.ifCond .ne 6, 3) := by decide +kernel
theorem dX4_bound_35 : decode cX4_bound 35 = .ok (.ldc 83, 2) := by decide +kernel
theorem dX4_bound_37 : decode cX4_bound 37 = .ok (.ireturn, 1) := by decide +kernel
theorem dX4_bound_38 : decode cX4_bound 38 = .ok (.aload_n 0, 1) := by decide +kernel
theorem dX4_bound_39 : decode cX4_bound 39 = .ok (.iload_n 1, 1) := by decide +kernel
theorem dX4_bound_40 : decode cX4_bound 40 = .ok (.iload_n 2, 1) := by decide +kernel
theorem dX4_bound_41 : decode cX4_bound 41 = .ok (.iload_n 3, 1) := by decide +kernel
theorem dX4_bound_42 : decode cX4_bound 42 = .ok (.invokevirtual 127, 3) := by decide +kernel
theorem dX4_bound_45 : decode cX4_bound 45 = .ok (.iload 4, 2) := by decide +kernel
theorem dX4_bound_47 : decode cX4_bound 47 = .ok (.if_icmp .gt 7, 3) := by decide +kernel
theorem dX4_bound_50 : decode cX4_bound 50 = .ok (.iconst 1, 1) := by decide +kernel
theorem dX4_bound_51 : decode cX4_bound 51 = .ok (.goto 4, 3) := by decide +kernel
theorem dX4_bound_54 : decode cX4_bound 54 = .ok (.iconst 0, 1) := by decide +kernel
theorem dX4_bound_55 : decode cX4_bound 55 = .ok (.ireturn, 1) := by decide +kernel
set_option maxRecDepth 20000 in
theorem ggX4_together_X4_areTwo : GoodIn wsX4_together wsX4_areTwo := goodIn_r _ [7, 8, 9, 10, 6, 11, 12, 13, 14, 15, 48, 49, 50, 51, 52, 53, 54, 55, 56, 57] (by decide +kernel) (by decide +kernel)
set_option maxRecDepth 20000 in
theorem gX4_together_X4_areTwo : GoodIn wsX4_together (wsV RX4 120 RX4 yX4_areTwo wsX4_areTwo) := goodIn_app (goodIn_of _ (by decide +kernel)) ggX4_together_X4_areTwo
set_option maxRecDepth 20000 in
theorem ggX4_together_X4_in : GoodIn wsX4_together wsX4_in := goodIn_r _ [15] (by decide +kernel) (by decide +kernel)
set_option maxRecDepth 20000 in
theorem gX4_together_X4_in : GoodIn wsX4_together (va_wsS RX4 43 yX4_in wsX4_in) := goodIn_app (goodIn_of _ (by decide +kernel)) ggX4_together_X4_in
set_option maxRecDepth 20000 in
theorem ggX4_together_X4_isMet : GoodIn wsX4_together wsX4_isMet := goodIn_r _ [19, 20, 21, 22, 6, 23, 24, 25, 26, 27, 28, 29, 30, 31, 12, 32, 33, 34, 35, 36, 37, 38, 39, 40, 41, 42, 43, 44, 45, 46, 47, 13, 14, 15, 48, 49, 50, 51, 52, 53, 54, 55, 56, 57] (by decide +kernel) (by decide +kernel)
set_option maxRecDepth 20000 in
theorem gX4_together_X4_isMet : GoodIn wsX4_together (wsV RX4 123 RX4 yX4_isMet wsX4_isMet) := goodIn_app (goodIn_of _ (by decide +kernel)) ggX4_together_X4_isMet
theorem dX4_together_0 : decode cX4_together 0 = .ok (.aload_n 0, 1) := by decide +kernel
theorem dX4_together_1 : decode cX4_together 1 = .ok (.iload_n 1, 1) := by decide +kernel
theorem dX4_together_2 : decode cX4_together 2 = .ok (.iload_n 2, 1) := by decide +kernel
theorem dX4_together_3 : decode cX4_together 3 = .ok (.invokevirtual 120, 3) := by decide +kernel
theorem dX4_together_6 : decode cX4_together 6 = .ok (.ifCond .ne 6, 3) := by decide +kernel
theorem dX4_together_9 : decode cX4_together 9 = .ok (.ldc 96, 2) := by decide +kernel
theorem dX4_together_11 : decode cX4_together 11 = .ok (.ireturn, 1) := by decide +kernel
theorem dX4_together_12 : decode cX4_together 12 = .ok (.iload_n 3, 1) := by decide +kernel
theorem dX4_together_13 : decode cX4_together 13 = .ok (.iconst 0, 1) := by decide +kernel
theorem dX4_together_14 : decode cX4_together 14 = .ok (.sipush 1500, 3) := by decide +kernel
theorem dX4_together_17 : decode cX4_together 17 = .ok (.invokestatic 43, 3) := by decide +kernel
theorem dX4_together_20 : decode cX4_together 20 = .ok (.ifCond .ne 6, 3) := by decide +kernel
theorem dX4_together_23 : decode cX4_together 23 = .ok (.ldc 83, 2) := by decide +kernel
theorem dX4_together_25 : decode cX4_together 25 = .ok (.ireturn, 1) := by decide +kernel
theorem dX4_together_26 : decode cX4_together 26 = .ok (.iconst 0, 1) := by decide +kernel
theorem dX4_together_27 : decode cX4_together 27 = .ok (.istore 4, 2) := by decide +kernel
theorem dX4_together_29 : decode cX4_together 29 = .ok (.iconst 0, 1) := by decide +kernel
theorem dX4_together_30 : decode cX4_together 30 = .ok (.istore 5, 2) := by decide +kernel
theorem dX4_together_32 : decode cX4_together 32 = .ok (.iload 5, 2) := by decide +kernel
theorem dX4_together_34 : decode cX4_together 34 = .ok (.iload_n 3, 1) := by decide +kernel
theorem dX4_together_35 : decode cX4_together 35 = .ok (.if_icmp .ge 30, 3) := by decide +kernel
theorem dX4_together_38 : decode cX4_together 38 = .ok (.iload 4, 2) := by decide +kernel
theorem dX4_together_40 : decode cX4_together 40 = .ok (.aload_n 0, 1) := by decide +kernel
theorem dX4_together_41 : decode cX4_together 41 = .ok (.iload_n 1, 1) := by decide +kernel
theorem dX4_together_42 : decode cX4_together 42 = .ok (.iload_n 2, 1) := by decide +kernel
theorem dX4_together_43 : decode cX4_together 43 = .ok (.iload 5, 2) := by decide +kernel
theorem dX4_together_45 : decode cX4_together 45 = .ok (.invokevirtual 123, 3) := by decide +kernel
theorem dX4_together_48 : decode cX4_together 48 = .ok (.ifCond .eq 7, 3) := by decide +kernel
theorem dX4_together_51 : decode cX4_together 51 = .ok (.iconst 1, 1) := by decide +kernel
theorem dX4_together_52 : decode cX4_together 52 = .ok (.goto 4, 3) := by decide +kernel
theorem dX4_together_55 : decode cX4_together 55 = .ok (.iconst 0, 1) := by decide +kernel
theorem dX4_together_56 : decode cX4_together 56 = .ok (.iadd, 1) := by decide +kernel
theorem dX4_together_57 : decode cX4_together 57 = .ok (.istore 4, 2) := by decide +kernel
theorem dX4_together_59 : decode cX4_together 59 = .ok (.iinc 5 1, 3) := by decide +kernel
theorem dX4_together_62 : decode cX4_together 62 = .ok (.goto (-30), 3) := by decide +kernel
theorem dX4_together_65 : decode cX4_together 65 = .ok (.iload 4, 2) := by decide +kernel
theorem dX4_together_67 : decode cX4_together 67 = .ok (.ireturn, 1) := by decide +kernel
set_option maxRecDepth 20000 in
theorem ggX4_even_X4_isUser : GoodIn wsX4_even wsX4_isUser := goodIn_r _ [9, 4, 10, 11, 8, 12, 29, 30, 31, 32, 33, 34, 35, 36, 37, 38] (by decide +kernel) (by decide +kernel)
set_option maxRecDepth 20000 in
theorem gX4_even_X4_isUser : GoodIn wsX4_even (wsV RX4 47 RX4 yX4_isUser wsX4_isUser) := goodIn_app (goodIn_of _ (by decide +kernel)) ggX4_even_X4_isUser
set_option maxRecDepth 20000 in
theorem ggX4_even_X4_in : GoodIn wsX4_even wsX4_in := goodIn_r _ [12] (by decide +kernel) (by decide +kernel)
set_option maxRecDepth 20000 in
theorem gX4_even_X4_in : GoodIn wsX4_even (va_wsS RX4 43 yX4_in wsX4_in) := goodIn_app (goodIn_of _ (by decide +kernel)) ggX4_even_X4_in
set_option maxRecDepth 20000 in
theorem ggX4_even_X4_of : GoodIn wsX4_even wsX4_of := goodIn_r _ [16, 4, 29, 30, 31, 32, 33, 34, 35, 36, 37, 38] (by decide +kernel) (by decide +kernel)
set_option maxRecDepth 20000 in
theorem gX4_even_X4_of : GoodIn wsX4_even (wsV RX4 50 RX4 yX4_of wsX4_of) := goodIn_app (goodIn_of _ (by decide +kernel)) ggX4_even_X4_of
set_option maxRecDepth 20000 in
theorem ggX4_even_X4_lands : GoodIn wsX4_even wsX4_lands := goodIn_r _ [20, 13, 14, 15, 8, 16, 4, 21, 22, 23, 24, 25, 26, 27, 28, 29, 30, 31, 32, 33, 34, 35, 36, 37, 38] (by decide +kernel) (by decide +kernel)
set_option maxRecDepth 20000 in
theorem gX4_even_X4_lands : GoodIn wsX4_even (wsV RX4 61 RX4 yX4_lands wsX4_lands) := goodIn_app (goodIn_of _ (by decide +kernel)) ggX4_even_X4_lands
theorem dX4_even_0 : decode cX4_even 0 = .ok (.aload_n 0, 1) := by decide +kernel
theorem dX4_even_1 : decode cX4_even 1 = .ok (.iload_n 1, 1) := by decide +kernel
theorem dX4_even_2 : decode cX4_even 2 = .ok (.invokevirtual 47, 3) := by decide +kernel
theorem dX4_even_5 : decode cX4_even 5 = .ok (.ifCond .ne 6, 3) := by decide +kernel
theorem dX4_even_8 : decode cX4_even 8 = .ok (.ldc 96, 2) := by decide +kernel
theorem dX4_even_10 : decode cX4_even 10 = .ok (.ireturn, 1) := by decide +kernel
theorem dX4_even_11 : decode cX4_even 11 = .ok (.iload_n 2, 1) := by decide +kernel
theorem dX4_even_12 : decode cX4_even 12 = .ok (.iconst 1, 1) := by decide +kernel
theorem dX4_even_13 : decode cX4_even 13 = .ok (.sipush 1500, 3) := by decide +kernel
theorem dX4_even_16 : decode cX4_even 16 = .ok (.invokestatic 43, 3) := by decide +kernel
theorem dX4_even_19 : decode cX4_even 19 = .ok (.ifCond .ne 6, 3) := by decide +kernel
theorem dX4_even_22 : decode cX4_even 22 = .ok (.ldc 83, 2) := by decide +kernel
theorem dX4_even_24 : decode cX4_even 24 = .ok (.ireturn, 1) := by decide +kernel
theorem dX4_even_25 : decode cX4_even 25 = .ok (.aload_n 0, 1) := by decide +kernel
theorem dX4_even_26 : decode cX4_even 26 = .ok (.iload_n 1, 1) := by decide +kernel
theorem dX4_even_27 : decode cX4_even 27 = .ok (.iconst 4, 1) := by decide +kernel
theorem dX4_even_28 : decode cX4_even 28 = .ok (.invokevirtual 50, 3) := by decide +kernel
theorem dX4_even_31 : decode cX4_even 31 = .ok (.istore_n 3, 1) := by decide +kernel
theorem dX4_even_32 : decode cX4_even 32 = .ok (.iconst 0, 1) := by decide +kernel
theorem dX4_even_33 : decode cX4_even 33 = .ok (.istore 4, 2) := by decide +kernel
theorem dX4_even_35 : decode cX4_even 35 = .ok (.iload 4, 2) := by decide +kernel
theorem dX4_even_37 : decode cX4_even 37 = .ok (.bipush 10, 2) := by decide +kernel
theorem dX4_even_39 : decode cX4_even 39 = .ok (.if_icmp .ge 17, 3) := by decide +kernel
theorem dX4_even_42 : decode cX4_even 42 = .ok (.aload_n 0, 1) := by decide +kernel
theorem dX4_even_43 : decode cX4_even 43 = .ok (.getfield 26, 3) := by decide +kernel
theorem dX4_even_46 : decode cX4_even 46 = .ok (.iload 4, 2) := by decide +kernel
theorem dX4_even_48 : decode cX4_even 48 = .ok (.iconst 0, 1) := by decide +kernel
theorem dX4_even_49 : decode cX4_even 49 = .ok (.iastore, 1) := by decide +kernel
theorem dX4_even_50 : decode cX4_even 50 = .ok (.iinc 4 1, 3) := by decide +kernel
theorem dX4_even_53 : decode cX4_even 53 = .ok (.goto (-18), 3) := by decide +kernel
theorem dX4_even_56 : decode cX4_even 56 = .ok (.iconst 0, 1) := by decide +kernel
theorem dX4_even_57 : decode cX4_even 57 = .ok (.istore 4, 2) := by decide +kernel
theorem dX4_even_59 : decode cX4_even 59 = .ok (.iload 4, 2) := by decide +kernel
theorem dX4_even_61 : decode cX4_even 61 = .ok (.iload_n 2, 1) := by decide +kernel
theorem dX4_even_62 : decode cX4_even 62 = .ok (.if_icmp .ge 29, 3) := by decide +kernel
theorem dX4_even_65 : decode cX4_even 65 = .ok (.iload_n 3, 1) := by decide +kernel
theorem dX4_even_66 : decode cX4_even 66 = .ok (.ifCond .eq 25, 3) := by decide +kernel
theorem dX4_even_69 : decode cX4_even 69 = .ok (.aload_n 0, 1) := by decide +kernel
theorem dX4_even_70 : decode cX4_even 70 = .ok (.getfield 26, 3) := by decide +kernel
theorem dX4_even_73 : decode cX4_even 73 = .ok (.aload_n 0, 1) := by decide +kernel
theorem dX4_even_74 : decode cX4_even 74 = .ok (.iload_n 1, 1) := by decide +kernel
theorem dX4_even_75 : decode cX4_even 75 = .ok (.iload 4, 2) := by decide +kernel
theorem dX4_even_77 : decode cX4_even 77 = .ok (.invokevirtual 61, 3) := by decide +kernel
theorem dX4_even_80 : decode cX4_even 80 = .ok (.dup2, 1) := by decide +kernel
theorem dX4_even_81 : decode cX4_even 81 = .ok (.iaload, 1) := by decide +kernel
theorem dX4_even_82 : decode cX4_even 82 = .ok (.iconst 1, 1) := by decide +kernel
theorem dX4_even_83 : decode cX4_even 83 = .ok (.iadd, 1) := by decide +kernel
theorem dX4_even_84 : decode cX4_even 84 = .ok (.iastore, 1) := by decide +kernel
theorem dX4_even_85 : decode cX4_even 85 = .ok (.iinc 4 1, 3) := by decide +kernel
theorem dX4_even_88 : decode cX4_even 88 = .ok (.goto (-29), 3) := by decide +kernel
theorem dX4_even_91 : decode cX4_even 91 = .ok (.iconst 0, 1) := by decide +kernel
theorem dX4_even_92 : decode cX4_even 92 = .ok (.istore 4, 2) := by decide +kernel
theorem dX4_even_94 : decode cX4_even 94 = .ok (.iload_n 2, 1) := by decide +kernel
theorem dX4_even_95 : decode cX4_even 95 = .ok (.istore 5, 2) := by decide +kernel
theorem dX4_even_97 : decode cX4_even 97 = .ok (.iconst 0, 1) := by decide +kernel
theorem dX4_even_98 : decode cX4_even 98 = .ok (.istore 6, 2) := by decide +kernel
theorem dX4_even_100 : decode cX4_even 100 = .ok (.iload 6, 2) := by decide +kernel
theorem dX4_even_102 : decode cX4_even 102 = .ok (.aload_n 0, 1) := by decide +kernel
theorem dX4_even_103 : decode cX4_even 103 = .ok (.getfield 7, 3) := by decide +kernel
theorem dX4_even_106 : decode cX4_even 106 = .ok (.iconst 0, 1) := by decide +kernel
theorem dX4_even_107 : decode cX4_even 107 = .ok (.iaload, 1) := by decide +kernel
theorem dX4_even_108 : decode cX4_even 108 = .ok (.if_icmp .ge 88, 3) := by decide +kernel
theorem dX4_even_111 : decode cX4_even 111 = .ok (.iload_n 3, 1) := by decide +kernel
theorem dX4_even_112 : decode cX4_even 112 = .ok (.iload 6, 2) := by decide +kernel
theorem dX4_even_114 : decode cX4_even 114 = .ok (.ishr, 1) := by decide +kernel
theorem dX4_even_115 : decode cX4_even 115 = .ok (.iconst 1, 1) := by decide +kernel
theorem dX4_even_116 : decode cX4_even 116 = .ok (.iand, 1) := by decide +kernel
theorem dX4_even_117 : decode cX4_even 117 = .ok (.iconst 1, 1) := by decide +kernel
theorem dX4_even_118 : decode cX4_even 118 = .ok (.if_icmp .ne 7, 3) := by decide +kernel
theorem dX4_even_121 : decode cX4_even 121 = .ok (.iconst 1, 1) := by decide +kernel
theorem dX4_even_122 : decode cX4_even 122 = .ok (.goto 4, 3) := by decide +kernel
theorem dX4_even_125 : decode cX4_even 125 = .ok (.iconst 0, 1) := by decide +kernel
theorem dX4_even_126 : decode cX4_even 126 = .ok (.istore 7, 2) := by decide +kernel
theorem dX4_even_128 : decode cX4_even 128 = .ok (.iload 7, 2) := by decide +kernel
theorem dX4_even_130 : decode cX4_even 130 = .ok (.ifCond .eq 25, 3) := by decide +kernel
theorem dX4_even_133 : decode cX4_even 133 = .ok (.aload_n 0, 1) := by decide +kernel
theorem dX4_even_134 : decode cX4_even 134 = .ok (.getfield 26, 3) := by decide +kernel
theorem dX4_even_137 : decode cX4_even 137 = .ok (.iload 6, 2) := by decide +kernel
theorem dX4_even_139 : decode cX4_even 139 = .ok (.iaload, 1) := by decide +kernel
theorem dX4_even_140 : decode cX4_even 140 = .ok (.iload 4, 2) := by decide +kernel
theorem dX4_even_142 : decode cX4_even 142 = .ok (.if_icmp .le 13, 3) := by decide +kernel
theorem dX4_even_145 : decode cX4_even 145 = .ok (.aload_n 0, 1) := by decide +kernel
theorem dX4_even_146 : decode cX4_even 146 = .ok (.getfield 26, 3) := by decide +kernel
theorem dX4_even_149 : decode cX4_even 149 = .ok (.iload 6, 2) := by decide +kernel
theorem dX4_even_151 : decode cX4_even 151 = .ok (.iaload, 1) := by decide +kernel
theorem dX4_even_152 : decode cX4_even 152 = .ok (.goto 5, 3) := by decide +kernel
theorem dX4_even_155 : decode cX4_even 155 = .ok (.iload 4, 2) := by decide +kernel
theorem dX4_even_157 : decode cX4_even 157 = .ok (.istore 4, 2) := by decide +kernel
theorem dX4_even_159 : decode cX4_even 159 = .ok (.iload 7, 2) := by decide +kernel
theorem dX4_even_161 : decode cX4_even 161 = .ok (.ifCond .eq 25, 3) := by decide +kernel
theorem dX4_even_164 : decode cX4_even 164 = .ok (.aload_n 0, 1) := by decide +kernel
theorem dX4_even_165 : decode cX4_even 165 = .ok (.getfield 26, 3) := by decide +kernel
theorem dX4_even_168 : decode cX4_even 168 = .ok (.iload 6, 2) := by decide +kernel
theorem dX4_even_170 : decode cX4_even 170 = .ok (.iaload, 1) := by decide +kernel
theorem dX4_even_171 : decode cX4_even 171 = .ok (.iload 5, 2) := by decide +kernel
theorem dX4_even_173 : decode cX4_even 173 = .ok (.if_icmp .ge 13, 3) := by decide +kernel
theorem dX4_even_176 : decode cX4_even 176 = .ok (.aload_n 0, 1) := by decide +kernel
theorem dX4_even_177 : decode cX4_even 177 = .ok (.getfield 26, 3) := by decide +kernel
theorem dX4_even_180 : decode cX4_even 180 = .ok (.iload 6, 2) := by decide +kernel
theorem dX4_even_182 : decode cX4_even 182 = .ok (.iaload, 1) := by decide +kernel
theorem dX4_even_183 : decode cX4_even 183 = .ok (.goto 5, 3) := by decide +kernel
theorem dX4_even_186 : decode cX4_even 186 = .ok (.iload 5, 2) := by decide +kernel
theorem dX4_even_188 : decode cX4_even 188 = .ok (.istore 5, 2) := by decide +kernel
theorem dX4_even_190 : decode cX4_even 190 = .ok (.iinc 6 1, 3) := by decide +kernel
theorem dX4_even_193 : decode cX4_even 193 = .ok (.goto (-93), 3) := by decide +kernel
theorem dX4_even_196 : decode cX4_even 196 = .ok (.iload_n 3, 1) := by decide +kernel
theorem dX4_even_197 : decode cX4_even 197 = .ok (.ifCond .ne 7, 3) := by decide +kernel
theorem dX4_even_200 : decode cX4_even 200 = .ok (.iconst 0, 1) := by decide +kernel
theorem dX4_even_201 : decode cX4_even 201 = .ok (.goto 8, 3) := by decide +kernel
theorem dX4_even_204 : decode cX4_even 204 = .ok (.iload 4, 2) := by decide +kernel
theorem dX4_even_206 : decode cX4_even 206 = .ok (.iload 5, 2) := by decide +kernel
theorem dX4_even_208 : decode cX4_even 208 = .ok (.isub, 1) := by decide +kernel
theorem dX4_even_209 : decode cX4_even 209 = .ok (.ireturn, 1) := by decide +kernel
set_option maxRecDepth 20000 in
theorem ggX4_slot_X4_isMet : GoodIn wsX4_slot wsX4_isMet := goodIn_r _ [8, 9, 10, 11, 7, 12, 13, 14, 15, 16, 17, 18, 19, 20, 1, 21, 22, 23, 24, 25, 26, 27, 28, 29, 30, 31, 32, 33, 34, 35, 36, 37, 38, 39, 44, 45, 46, 47, 48, 49, 50, 51, 52, 53] (by decide +kernel) (by decide +kernel)
set_option maxRecDepth 20000 in
theorem gX4_slot_X4_isMet : GoodIn wsX4_slot (wsV RX4 123 RX4 yX4_isMet wsX4_isMet) := goodIn_app (goodIn_of _ (by decide +kernel)) ggX4_slot_X4_isMet
set_option maxRecDepth 20000 in
theorem ggX4_slot_X4_join : GoodIn wsX4_slot wsX4_join := goodIn_r _ [43, 1, 2, 44, 45, 46, 47, 48, 49, 50, 51, 52, 53] (by decide +kernel) (by decide +kernel)
set_option maxRecDepth 20000 in
theorem gX4_slot_X4_join : GoodIn wsX4_slot (wsV RX4 130 RX4 yX4_join wsX4_join) := goodIn_app (goodIn_of _ (by decide +kernel)) ggX4_slot_X4_join
theorem dX4_slot_0 : decode cX4_slot 0 = .ok (.iconst 0, 1) := by decide +kernel
theorem dX4_slot_1 : decode cX4_slot 1 = .ok (.istore_n 1, 1) := by decide +kernel
theorem dX4_slot_2 : decode cX4_slot 2 = .ok (.iload_n 1, 1) := by decide +kernel
theorem dX4_slot_3 : decode cX4_slot 3 = .ok (.aload_n 0, 1) := by decide +kernel
theorem dX4_slot_4 : decode cX4_slot 4 = .ok (.getfield 7, 3) := by decide +kernel
theorem dX4_slot_7 : decode cX4_slot 7 = .ok (.iconst 1, 1) := by decide +kernel
theorem dX4_slot_8 : decode cX4_slot 8 = .ok (.iaload, 1) := by decide +kernel
theorem dX4_slot_9 : decode cX4_slot 9 = .ok (.if_icmp .ge 68, 3) := by decide +kernel
theorem dX4_slot_12 : decode cX4_slot 12 = .ok (.iload_n 1, 1) := by decide +kernel
theorem dX4_slot_13 : decode cX4_slot 13 = .ok (.iconst 1, 1) := by decide +kernel
theorem dX4_slot_14 : decode cX4_slot 14 = .ok (.iadd, 1) := by decide +kernel
theorem dX4_slot_15 : decode cX4_slot 15 = .ok (.istore_n 2, 1) := by decide +kernel
theorem dX4_slot_16 : decode cX4_slot 16 = .ok (.iload_n 2, 1) := by decide +kernel
theorem dX4_slot_17 : decode cX4_slot 17 = .ok (.aload_n 0, 1) := by decide +kernel
theorem dX4_slot_18 : decode cX4_slot 18 = .ok (.getfield 7, 3) := by decide +kernel
theorem dX4_slot_21 : decode cX4_slot 21 = .ok (.iconst 1, 1) := by decide +kernel
theorem dX4_slot_22 : decode cX4_slot 22 = .ok (.iaload, 1) := by decide +kernel
theorem dX4_slot_23 : decode cX4_slot 23 = .ok (.if_icmp .ge 48, 3) := by decide +kernel
theorem dX4_slot_26 : decode cX4_slot 26 = .ok (.aload_n 0, 1) := by decide +kernel
theorem dX4_slot_27 : decode cX4_slot 27 = .ok (.getfield 23, 3) := by decide +kernel
theorem dX4_slot_30 : decode cX4_slot 30 = .ok (.iload_n 1, 1) := by decide +kernel
theorem dX4_slot_31 : decode cX4_slot 31 = .ok (.iaload, 1) := by decide +kernel
theorem dX4_slot_32 : decode cX4_slot 32 = .ok (.iload_n 1, 1) := by decide +kernel
theorem dX4_slot_33 : decode cX4_slot 33 = .ok (.if_icmp .ne 38, 3) := by decide +kernel
theorem dX4_slot_36 : decode cX4_slot 36 = .ok (.aload_n 0, 1) := by decide +kernel
theorem dX4_slot_37 : decode cX4_slot 37 = .ok (.getfield 23, 3) := by decide +kernel
theorem dX4_slot_40 : decode cX4_slot 40 = .ok (.iload_n 2, 1) := by decide +kernel
theorem dX4_slot_41 : decode cX4_slot 41 = .ok (.iaload, 1) := by decide +kernel
theorem dX4_slot_42 : decode cX4_slot 42 = .ok (.iload_n 2, 1) := by decide +kernel
theorem dX4_slot_43 : decode cX4_slot 43 = .ok (.if_icmp .ne 22, 3) := by decide +kernel
theorem dX4_slot_46 : decode cX4_slot 46 = .ok (.aload_n 0, 1) := by decide +kernel
theorem dX4_slot_47 : decode cX4_slot 47 = .ok (.iload_n 1, 1) := by decide +kernel
theorem dX4_slot_48 : decode cX4_slot 48 = .ok (.iload_n 2, 1) := by decide +kernel
theorem dX4_slot_49 : decode cX4_slot 49 = .ok (.aload_n 0, 1) := by decide +kernel
theorem dX4_slot_50 : decode cX4_slot 50 = .ok (.getfield 73, 3) := by decide +kernel
theorem dX4_slot_53 : decode cX4_slot 53 = .ok (.invokevirtual 123, 3) := by decide +kernel
theorem dX4_slot_56 : decode cX4_slot 56 = .ok (.ifCond .eq 9, 3) := by decide +kernel
theorem dX4_slot_59 : decode cX4_slot 59 = .ok (.aload_n 0, 1) := by decide +kernel
theorem dX4_slot_60 : decode cX4_slot 60 = .ok (.iload_n 1, 1) := by decide +kernel
theorem dX4_slot_61 : decode cX4_slot 61 = .ok (.iload_n 2, 1) := by decide +kernel
theorem dX4_slot_62 : decode cX4_slot 62 = .ok (.invokevirtual 130, 3) := by decide +kernel
theorem dX4_slot_65 : decode cX4_slot 65 = .ok (.iinc 2 1, 3) := by decide +kernel
theorem dX4_slot_68 : decode cX4_slot 68 = .ok (.goto (-52), 3) := by decide +kernel
theorem dX4_slot_71 : decode cX4_slot 71 = .ok (.iinc 1 1, 3) := by decide +kernel
theorem dX4_slot_74 : decode cX4_slot 74 = .ok (.goto (-72), 3) := by decide +kernel
theorem dX4_slot_77 : decode cX4_slot 77 = .ok (.aload_n 0, 1) := by decide +kernel
theorem dX4_slot_78 : decode cX4_slot 78 = .ok (.dup, 1) := by decide +kernel
theorem dX4_slot_79 : decode cX4_slot 79 = .ok (.getfield 73, 3) := by decide +kernel
theorem dX4_slot_82 : decode cX4_slot 82 = .ok (.iconst 1, 1) := by decide +kernel
theorem dX4_slot_83 : decode cX4_slot 83 = .ok (.iadd, 1) := by decide +kernel
theorem dX4_slot_84 : decode cX4_slot 84 = .ok (.putfield 73, 3) := by decide +kernel
theorem dX4_slot_87 : decode cX4_slot 87 = .ok (.return_, 1) := by decide +kernel
theorem dX4_join_0 : decode cX4_join 0 = .ok (.iconst 0, 1) := by decide +kernel
theorem dX4_join_1 : decode cX4_join 1 = .ok (.istore_n 3, 1) := by decide +kernel
theorem dX4_join_2 : decode cX4_join 2 = .ok (.iload_n 3, 1) := by decide +kernel
theorem dX4_join_3 : decode cX4_join 3 = .ok (.aload_n 0, 1) := by decide +kernel
theorem dX4_join_4 : decode cX4_join 4 = .ok (.getfield 7, 3) := by decide +kernel
theorem dX4_join_7 : decode cX4_join 7 = .ok (.iconst 1, 1) := by decide +kernel
theorem dX4_join_8 : decode cX4_join 8 = .ok (.iaload, 1) := by decide +kernel
theorem dX4_join_9 : decode cX4_join 9 = .ok (.if_icmp .ge 35, 3) := by decide +kernel
theorem dX4_join_12 : decode cX4_join 12 = .ok (.aload_n 0, 1) := by decide +kernel
theorem dX4_join_13 : decode cX4_join 13 = .ok (.getfield 23, 3) := by decide +kernel
theorem dX4_join_16 : decode cX4_join 16 = .ok (.iload_n 3, 1) := by decide +kernel
theorem dX4_join_17 : decode cX4_join 17 = .ok (.aload_n 0, 1) := by decide +kernel
theorem dX4_join_18 : decode cX4_join 18 = .ok (.getfield 23, 3) := by decide +kernel
theorem dX4_join_21 : decode cX4_join 21 = .ok (.iload_n 3, 1) := by decide +kernel
theorem dX4_join_22 : decode cX4_join 22 = .ok (.iaload, 1) := by decide +kernel
theorem dX4_join_23 : decode cX4_join 23 = .ok (.iload_n 2, 1) := by decide +kernel
theorem dX4_join_24 : decode cX4_join 24 = .ok (.if_icmp .ne 7, 3) := by decide +kernel
theorem dX4_join_27 : decode cX4_join 27 = .ok (.iload_n 1, 1) := by decide +kernel
theorem dX4_join_28 : decode cX4_join 28 = .ok (.goto 9, 3) := by decide +kernel
theorem dX4_join_31 : decode cX4_join 31 = .ok (.aload_n 0, 1) := by decide +kernel
theorem dX4_join_32 : decode cX4_join 32 = .ok (.getfield 23, 3) := by decide +kernel
theorem dX4_join_35 : decode cX4_join 35 = .ok (.iload_n 3, 1) := by decide +kernel
theorem dX4_join_36 : decode cX4_join 36 = .ok (.iaload, 1) := by decide +kernel
theorem dX4_join_37 : decode cX4_join 37 = .ok (.iastore, 1) := by decide +kernel
theorem dX4_join_38 : decode cX4_join 38 = .ok (.iinc 3 1, 3) := by decide +kernel
theorem dX4_join_41 : decode cX4_join 41 = .ok (.goto (-39), 3) := by decide +kernel
theorem dX4_join_44 : decode cX4_join 44 = .ok (.return_, 1) := by decide +kernel
set_option maxRecDepth 20000 in
theorem ggX4_run_X4_in : GoodIn wsX4_run wsX4_in := goodIn_r _ [9] (by decide +kernel) (by decide +kernel)
set_option maxRecDepth 20000 in
theorem gX4_run_X4_in : GoodIn wsX4_run (va_wsS RX4 43 yX4_in wsX4_in) := goodIn_app (goodIn_of _ (by decide +kernel)) ggX4_run_X4_in
set_option maxRecDepth 20000 in
theorem ggX4_run_X4_slot : GoodIn wsX4_run wsX4_slot := goodIn_r _ [13, 2, 14, 4, 15, 16, 17, 8, 18, 19, 20, 21, 22, 23, 24, 25, 26, 27, 28, 29, 30, 31, 32, 33, 34, 35, 36, 37, 38, 39, 40, 41, 42, 43, 44, 45, 46, 6, 7, 9, 47, 48, 49, 50, 55, 56, 57, 58, 59, 60, 61, 62, 63, 64] (by decide +kernel) (by decide +kernel)
set_option maxRecDepth 20000 in
theorem gX4_run_X4_slot : GoodIn wsX4_run (wsV RX4 134 RX4 yX4_slot wsX4_slot) := goodIn_app (goodIn_of _ (by decide +kernel)) ggX4_run_X4_slot
set_option maxRecDepth 20000 in
theorem ggX4_run_X4_groups : GoodIn wsX4_run wsX4_groups := goodIn_r _ [54, 2, 14, 55, 56, 57, 58, 59, 60, 61, 62, 63, 64] (by decide +kernel) (by decide +kernel)
set_option maxRecDepth 20000 in
theorem gX4_run_X4_groups : GoodIn wsX4_run (wsV RX4 117 RX4 yX4_groups wsX4_groups) := goodIn_app (goodIn_of _ (by decide +kernel)) ggX4_run_X4_groups
theorem dX4_run_0 : decode cX4_run 0 = .ok (.iload_n 1, 1) := by decide +kernel
theorem dX4_run_1 : decode cX4_run 1 = .ok (.iconst 1, 1) := by decide +kernel
theorem dX4_run_2 : decode cX4_run 2 = .ok (.sipush 200, 3) := by decide +kernel
theorem dX4_run_5 : decode cX4_run 5 = .ok (.invokestatic 43, 3) := by decide +kernel
theorem dX4_run_8 : decode cX4_run 8 = .ok (.ifCond .ne 6, 3) := by decide +kernel
theorem dX4_run_11 : decode cX4_run 11 = .ok (.ldc 83, 2) := by decide +kernel
theorem dX4_run_13 : decode cX4_run 13 = .ok (.ireturn, 1) := by decide +kernel
theorem dX4_run_14 : decode cX4_run 14 = .ok (.aload_n 0, 1) := by decide +kernel
theorem dX4_run_15 : decode cX4_run 15 = .ok (.getfield 7, 3) := by decide +kernel
theorem dX4_run_18 : decode cX4_run 18 = .ok (.iconst 1, 1) := by decide +kernel
theorem dX4_run_19 : decode cX4_run 19 = .ok (.iaload, 1) := by decide +kernel
theorem dX4_run_20 : decode cX4_run 20 = .ok (.ifCond .ne 6, 3) := by decide +kernel
theorem dX4_run_23 : decode cX4_run 23 = .ok (.ldc 110, 2) := by decide +kernel
theorem dX4_run_25 : decode cX4_run 25 = .ok (.ireturn, 1) := by decide +kernel
theorem dX4_run_26 : decode cX4_run 26 = .ok (.aload_n 0, 1) := by decide +kernel
theorem dX4_run_27 : decode cX4_run 27 = .ok (.getfield 73, 3) := by decide +kernel
theorem dX4_run_30 : decode cX4_run 30 = .ok (.sipush 3000, 3) := by decide +kernel
theorem dX4_run_33 : decode cX4_run 33 = .ok (.if_icmp .ne 6, 3) := by decide +kernel
theorem dX4_run_36 : decode cX4_run 36 = .ok (.ldc 88, 2) := by decide +kernel
theorem dX4_run_38 : decode cX4_run 38 = .ok (.ireturn, 1) := by decide +kernel
theorem dX4_run_39 : decode cX4_run 39 = .ok (.iconst 0, 1) := by decide +kernel
theorem dX4_run_40 : decode cX4_run 40 = .ok (.istore_n 2, 1) := by decide +kernel
theorem dX4_run_41 : decode cX4_run 41 = .ok (.iload_n 2, 1) := by decide +kernel
theorem dX4_run_42 : decode cX4_run 42 = .ok (.iload_n 1, 1) := by decide +kernel
theorem dX4_run_43 : decode cX4_run 43 = .ok (.if_icmp .ge 23, 3) := by decide +kernel
theorem dX4_run_46 : decode cX4_run 46 = .ok (.aload_n 0, 1) := by decide +kernel
theorem dX4_run_47 : decode cX4_run 47 = .ok (.getfield 73, 3) := by decide +kernel
theorem dX4_run_50 : decode cX4_run 50 = .ok (.sipush 3000, 3) := by decide +kernel
theorem dX4_run_53 : decode cX4_run 53 = .ok (.if_icmp .ge 13, 3) := by decide +kernel
theorem dX4_run_56 : decode cX4_run 56 = .ok (.aload_n 0, 1) := by decide +kernel
theorem dX4_run_57 : decode cX4_run 57 = .ok (.invokevirtual 134, 3) := by decide +kernel
theorem dX4_run_60 : decode cX4_run 60 = .ok (.iinc 2 1, 3) := by decide +kernel
theorem dX4_run_63 : decode cX4_run 63 = .ok (.goto (-22), 3) := by decide +kernel
theorem dX4_run_66 : decode cX4_run 66 = .ok (.aload_n 0, 1) := by decide +kernel
theorem dX4_run_67 : decode cX4_run 67 = .ok (.invokevirtual 117, 3) := by decide +kernel
theorem dX4_run_70 : decode cX4_run 70 = .ok (.ireturn, 1) := by decide +kernel
set_option maxRecDepth 20000 in
theorem ggX4_merge_X4_groups : GoodIn wsX4_merge wsX4_groups := goodIn_r _ [8, 1, 9, 53, 54, 55, 56, 57, 58, 59, 60, 61, 62] (by decide +kernel) (by decide +kernel)
set_option maxRecDepth 20000 in
theorem gX4_merge_X4_groups : GoodIn wsX4_merge (wsV RX4 117 RX4 yX4_groups wsX4_groups) := goodIn_app (goodIn_of _ (by decide +kernel)) ggX4_merge_X4_groups
set_option maxRecDepth 20000 in
theorem ggX4_merge_X4_slot : GoodIn wsX4_merge wsX4_slot := goodIn_r _ [13, 1, 9, 3, 14, 15, 16, 7, 17, 18, 19, 20, 21, 22, 23, 24, 25, 26, 27, 28, 29, 30, 31, 32, 33, 34, 35, 36, 37, 38, 39, 40, 41, 42, 43, 44, 45, 46, 47, 48, 49, 50, 51, 52, 53, 54, 55, 56, 57, 58, 59, 60, 61, 62] (by decide +kernel) (by decide +kernel)
set_option maxRecDepth 20000 in
theorem gX4_merge_X4_slot : GoodIn wsX4_merge (wsV RX4 134 RX4 yX4_slot wsX4_slot) := goodIn_app (goodIn_of _ (by decide +kernel)) ggX4_merge_X4_slot
theorem dX4_merge_0 : decode cX4_merge 0 = .ok (.aload_n 0, 1) := by decide +kernel
theorem dX4_merge_1 : decode cX4_merge 1 = .ok (.getfield 7, 3) := by decide +kernel
theorem dX4_merge_4 : decode cX4_merge 4 = .ok (.iconst 1, 1) := by decide +kernel
theorem dX4_merge_5 : decode cX4_merge 5 = .ok (.iaload, 1) := by decide +kernel
theorem dX4_merge_6 : decode cX4_merge 6 = .ok (.ifCond .ne 6, 3) := by decide +kernel
theorem dX4_merge_9 : decode cX4_merge 9 = .ok (.ldc 110, 2) := by decide +kernel
theorem dX4_merge_11 : decode cX4_merge 11 = .ok (.ireturn, 1) := by decide +kernel
theorem dX4_merge_12 : decode cX4_merge 12 = .ok (.iconst 0, 1) := by decide +kernel
theorem dX4_merge_13 : decode cX4_merge 13 = .ok (.istore_n 1, 1) := by decide +kernel
theorem dX4_merge_14 : decode cX4_merge 14 = .ok (.iload_n 1, 1) := by decide +kernel
theorem dX4_merge_15 : decode cX4_merge 15 = .ok (.sipush 1500, 3) := by decide +kernel
theorem dX4_merge_18 : decode cX4_merge 18 = .ok (.if_icmp .ge 31, 3) := by decide +kernel
theorem dX4_merge_21 : decode cX4_merge 21 = .ok (.aload_n 0, 1) := by decide +kernel
theorem dX4_merge_22 : decode cX4_merge 22 = .ok (.getfield 73, 3) := by decide +kernel
theorem dX4_merge_25 : decode cX4_merge 25 = .ok (.sipush 3000, 3) := by decide +kernel
theorem dX4_merge_28 : decode cX4_merge 28 = .ok (.if_icmp .ge 21, 3) := by decide +kernel
theorem dX4_merge_31 : decode cX4_merge 31 = .ok (.aload_n 0, 1) := by decide +kernel
theorem dX4_merge_32 : decode cX4_merge 32 = .ok (.invokevirtual 117, 3) := by decide +kernel
theorem dX4_merge_35 : decode cX4_merge 35 = .ok (.iconst 1, 1) := by decide +kernel
theorem dX4_merge_36 : decode cX4_merge 36 = .ok (.if_icmp .le 13, 3) := by decide +kernel
theorem dX4_merge_39 : decode cX4_merge 39 = .ok (.aload_n 0, 1) := by decide +kernel
theorem dX4_merge_40 : decode cX4_merge 40 = .ok (.invokevirtual 134, 3) := by decide +kernel
theorem dX4_merge_43 : decode cX4_merge 43 = .ok (.iinc 1 1, 3) := by decide +kernel
theorem dX4_merge_46 : decode cX4_merge 46 = .ok (.goto (-32), 3) := by decide +kernel
theorem dX4_merge_49 : decode cX4_merge 49 = .ok (.aload_n 0, 1) := by decide +kernel
theorem dX4_merge_50 : decode cX4_merge 50 = .ok (.getfield 73, 3) := by decide +kernel
theorem dX4_merge_53 : decode cX4_merge 53 = .ok (.ireturn, 1) := by decide +kernel
set_option maxRecDepth 20000 in
theorem ggX4_part_X4_anew : GoodIn wsX4_part wsX4_anew := goodIn_r _ [6, 1, 7, 8, 9, 10, 11, 12, 13, 14, 15, 16, 17] (by decide +kernel) (by decide +kernel)
set_option maxRecDepth 20000 in
theorem gX4_part_X4_anew : GoodIn wsX4_part (wsV RX4 32 RX4 yX4_anew wsX4_anew) := goodIn_app (goodIn_of _ (by decide +kernel)) ggX4_part_X4_anew
theorem dX4_part_0 : decode cX4_part 0 = .ok (.aload_n 0, 1) := by decide +kernel
theorem dX4_part_1 : decode cX4_part 1 = .ok (.getfield 73, 3) := by decide +kernel
theorem dX4_part_4 : decode cX4_part 4 = .ok (.istore_n 1, 1) := by decide +kernel
theorem dX4_part_5 : decode cX4_part 5 = .ok (.aload_n 0, 1) := by decide +kernel
theorem dX4_part_6 : decode cX4_part 6 = .ok (.invokevirtual 32, 3) := by decide +kernel
theorem dX4_part_9 : decode cX4_part 9 = .ok (.iload_n 1, 1) := by decide +kernel
theorem dX4_part_10 : decode cX4_part 10 = .ok (.ireturn, 1) := by decide +kernel
set_option maxRecDepth 20000 in
theorem ggX4_keep_X4_in : GoodIn wsX4_keep wsX4_in := goodIn_r _ [8] (by decide +kernel) (by decide +kernel)
set_option maxRecDepth 20000 in
theorem gX4_keep_X4_in : GoodIn wsX4_keep (va_wsS RX4 43 yX4_in wsX4_in) := goodIn_app (goodIn_of _ (by decide +kernel)) ggX4_keep_X4_in
set_option maxRecDepth 20000 in
theorem ggX4_keep_X4_bring : GoodIn wsX4_keep wsX4_bring := goodIn_r _ [11] (by decide +kernel) (by decide +kernel)
set_option maxRecDepth 20000 in
theorem gX4_keep_X4_bring : GoodIn wsX4_keep (va_wsS RX4 79 yX4_bring wsX4_bring) := goodIn_app (goodIn_of _ (by decide +kernel)) ggX4_keep_X4_bring
theorem dX4_keep_0 : decode cX4_keep 0 = .ok (.iload_n 1, 1) := by decide +kernel
theorem dX4_keep_1 : decode cX4_keep 1 = .ok (.iconst 0, 1) := by decide +kernel
theorem dX4_keep_2 : decode cX4_keep 2 = .ok (.iconst 1, 1) := by decide +kernel
theorem dX4_keep_3 : decode cX4_keep 3 = .ok (.invokestatic 43, 3) := by decide +kernel
theorem dX4_keep_6 : decode cX4_keep 6 = .ok (.ifCond .ne 6, 3) := by decide +kernel
theorem dX4_keep_9 : decode cX4_keep 9 = .ok (.ldc 96, 2) := by decide +kernel
theorem dX4_keep_11 : decode cX4_keep 11 = .ok (.ireturn, 1) := by decide +kernel
theorem dX4_keep_12 : decode cX4_keep 12 = .ok (.aload_n 0, 1) := by decide +kernel
theorem dX4_keep_13 : decode cX4_keep 13 = .ok (.getfield 7, 3) := by decide +kernel
theorem dX4_keep_16 : decode cX4_keep 16 = .ok (.iconst 0, 1) := by decide +kernel
theorem dX4_keep_17 : decode cX4_keep 17 = .ok (.aload_n 0, 1) := by decide +kernel
theorem dX4_keep_18 : decode cX4_keep 18 = .ok (.getfield 16, 3) := by decide +kernel
theorem dX4_keep_21 : decode cX4_keep 21 = .ok (.bipush 60, 2) := by decide +kernel
theorem dX4_keep_23 : decode cX4_keep 23 = .ok (.iload_n 1, 1) := by decide +kernel
theorem dX4_keep_24 : decode cX4_keep 24 = .ok (.imul, 1) := by decide +kernel
theorem dX4_keep_25 : decode cX4_keep 25 = .ok (.bipush 60, 2) := by decide +kernel
theorem dX4_keep_27 : decode cX4_keep 27 = .ok (.invokestatic 79, 3) := by decide +kernel
theorem dX4_keep_30 : decode cX4_keep 30 = .ok (.aload_n 0, 1) := by decide +kernel
theorem dX4_keep_31 : decode cX4_keep 31 = .ok (.getfield 19, 3) := by decide +kernel
theorem dX4_keep_34 : decode cX4_keep 34 = .ok (.iload_n 1, 1) := by decide +kernel
theorem dX4_keep_35 : decode cX4_keep 35 = .ok (.iconst 1, 1) := by decide +kernel
theorem dX4_keep_36 : decode cX4_keep 36 = .ok (.bastore, 1) := by decide +kernel
theorem dX4_keep_37 : decode cX4_keep 37 = .ok (.aload_n 0, 1) := by decide +kernel
theorem dX4_keep_38 : decode cX4_keep 38 = .ok (.getfield 7, 3) := by decide +kernel
theorem dX4_keep_41 : decode cX4_keep 41 = .ok (.iconst 1, 1) := by decide +kernel
theorem dX4_keep_42 : decode cX4_keep 42 = .ok (.iaload, 1) := by decide +kernel
theorem dX4_keep_43 : decode cX4_keep 43 = .ok (.ireturn, 1) := by decide +kernel
set_option maxRecDepth 20000 in
theorem ggX4_goBack_X4_in : GoodIn wsX4_goBack wsX4_in := goodIn_r _ [10] (by decide +kernel) (by decide +kernel)
set_option maxRecDepth 20000 in
theorem gX4_goBack_X4_in : GoodIn wsX4_goBack (va_wsS RX4 43 yX4_in wsX4_in) := goodIn_app (goodIn_of _ (by decide +kernel)) ggX4_goBack_X4_in
set_option maxRecDepth 20000 in
theorem ggX4_goBack_X4_bring : GoodIn wsX4_goBack wsX4_bring := goodIn_r _ [13] (by decide +kernel) (by decide +kernel)
set_option maxRecDepth 20000 in
theorem gX4_goBack_X4_bring : GoodIn wsX4_goBack (va_wsS RX4 79 yX4_bring wsX4_bring) := goodIn_app (goodIn_of _ (by decide +kernel)) ggX4_goBack_X4_bring
set_option maxRecDepth 20000 in
theorem ggX4_goBack_X4_layPrime : GoodIn wsX4_goBack wsX4_layPrime := goodIn_r _ [17, 5, 18, 19, 20, 9, 21, 28, 29, 30, 31, 32, 33, 34, 35, 36, 37] (by decide +kernel) (by decide +kernel)
set_option maxRecDepth 20000 in
theorem gX4_goBack_X4_layPrime : GoodIn wsX4_goBack (wsV RX4 29 RX4 yX4_layPrime wsX4_layPrime) := goodIn_app (goodIn_of _ (by decide +kernel)) ggX4_goBack_X4_layPrime
set_option maxRecDepth 20000 in
theorem ggX4_goBack_X4_anew : GoodIn wsX4_goBack wsX4_anew := goodIn_r _ [25, 26, 27, 28, 29, 30, 31, 32, 33, 34, 35, 36, 37] (by decide +kernel) (by decide +kernel)
set_option maxRecDepth 20000 in
theorem gX4_goBack_X4_anew : GoodIn wsX4_goBack (wsV RX4 32 RX4 yX4_anew wsX4_anew) := goodIn_app (goodIn_of _ (by decide +kernel)) ggX4_goBack_X4_anew
theorem dX4_goBack_0 : decode cX4_goBack 0 = .ok (.iload_n 1, 1) := by decide +kernel
theorem dX4_goBack_1 : decode cX4_goBack 1 = .ok (.iconst 0, 1) := by decide +kernel
theorem dX4_goBack_2 : decode cX4_goBack 2 = .ok (.iconst 1, 1) := by decide +kernel
theorem dX4_goBack_3 : decode cX4_goBack 3 = .ok (.invokestatic 43, 3) := by decide +kernel
theorem dX4_goBack_6 : decode cX4_goBack 6 = .ok (.ifCond .ne 6, 3) := by decide +kernel
theorem dX4_goBack_9 : decode cX4_goBack 9 = .ok (.ldc 96, 2) := by decide +kernel
theorem dX4_goBack_11 : decode cX4_goBack 11 = .ok (.ireturn, 1) := by decide +kernel
theorem dX4_goBack_12 : decode cX4_goBack 12 = .ok (.aload_n 0, 1) := by decide +kernel
theorem dX4_goBack_13 : decode cX4_goBack 13 = .ok (.getfield 19, 3) := by decide +kernel
theorem dX4_goBack_16 : decode cX4_goBack 16 = .ok (.iload_n 1, 1) := by decide +kernel
theorem dX4_goBack_17 : decode cX4_goBack 17 = .ok (.baload, 1) := by decide +kernel
theorem dX4_goBack_18 : decode cX4_goBack 18 = .ok (.ifCond .ne 6, 3) := by decide +kernel
theorem dX4_goBack_21 : decode cX4_goBack 21 = .ok (.ldc 110, 2) := by decide +kernel
theorem dX4_goBack_23 : decode cX4_goBack 23 = .ok (.ireturn, 1) := by decide +kernel
theorem dX4_goBack_24 : decode cX4_goBack 24 = .ok (.aload_n 0, 1) := by decide +kernel
theorem dX4_goBack_25 : decode cX4_goBack 25 = .ok (.getfield 16, 3) := by decide +kernel
theorem dX4_goBack_28 : decode cX4_goBack 28 = .ok (.bipush 60, 2) := by decide +kernel
theorem dX4_goBack_30 : decode cX4_goBack 30 = .ok (.iload_n 1, 1) := by decide +kernel
theorem dX4_goBack_31 : decode cX4_goBack 31 = .ok (.imul, 1) := by decide +kernel
theorem dX4_goBack_32 : decode cX4_goBack 32 = .ok (.aload_n 0, 1) := by decide +kernel
theorem dX4_goBack_33 : decode cX4_goBack 33 = .ok (.getfield 7, 3) := by decide +kernel
theorem dX4_goBack_36 : decode cX4_goBack 36 = .ok (.iconst 0, 1) := by decide +kernel
theorem dX4_goBack_37 : decode cX4_goBack 37 = .ok (.bipush 60, 2) := by decide +kernel
theorem dX4_goBack_39 : decode cX4_goBack 39 = .ok (.invokestatic 79, 3) := by decide +kernel
theorem dX4_goBack_42 : decode cX4_goBack 42 = .ok (.aload_n 0, 1) := by decide +kernel
theorem dX4_goBack_43 : decode cX4_goBack 43 = .ok (.iconst 0, 1) := by decide +kernel
theorem dX4_goBack_44 : decode cX4_goBack 44 = .ok (.putfield 76, 3) := by decide +kernel
theorem dX4_goBack_47 : decode cX4_goBack 47 = .ok (.aload_n 0, 1) := by decide +kernel
theorem dX4_goBack_48 : decode cX4_goBack 48 = .ok (.invokevirtual 29, 3) := by decide +kernel
theorem dX4_goBack_51 : decode cX4_goBack 51 = .ok (.aload_n 0, 1) := by decide +kernel
theorem dX4_goBack_52 : decode cX4_goBack 52 = .ok (.invokevirtual 32, 3) := by decide +kernel
theorem dX4_goBack_55 : decode cX4_goBack 55 = .ok (.aload_n 0, 1) := by decide +kernel
theorem dX4_goBack_56 : decode cX4_goBack 56 = .ok (.getfield 7, 3) := by decide +kernel
theorem dX4_goBack_59 : decode cX4_goBack 59 = .ok (.iconst 1, 1) := by decide +kernel
theorem dX4_goBack_60 : decode cX4_goBack 60 = .ok (.iaload, 1) := by decide +kernel
theorem dX4_goBack_61 : decode cX4_goBack 61 = .ok (.ireturn, 1) := by decide +kernel
theorem dJ6_bitCount_0f7a4_0 : decode cJ6_bitCount_0f7a4 0 = .ok (.iload_n 0, 1) := by decide +kernel
theorem dJ6_bitCount_0f7a4_1 : decode cJ6_bitCount_0f7a4 1 = .ok (.iload_n 0, 1) := by decide +kernel
theorem dJ6_bitCount_0f7a4_2 : decode cJ6_bitCount_0f7a4 2 = .ok (.iconst 1, 1) := by decide +kernel
theorem dJ6_bitCount_0f7a4_3 : decode cJ6_bitCount_0f7a4 3 = .ok (.iushr, 1) := by decide +kernel
theorem dJ6_bitCount_0f7a4_4 : decode cJ6_bitCount_0f7a4 4 = .ok (.ldc_w 265, 3) := by decide +kernel
theorem dJ6_bitCount_0f7a4_7 : decode cJ6_bitCount_0f7a4 7 = .ok (.iand, 1) := by decide +kernel
theorem dJ6_bitCount_0f7a4_8 : decode cJ6_bitCount_0f7a4 8 = .ok (.isub, 1) := by decide +kernel
theorem dJ6_bitCount_0f7a4_9 : decode cJ6_bitCount_0f7a4 9 = .ok (.istore_n 0, 1) := by decide +kernel
theorem dJ6_bitCount_0f7a4_10 : decode cJ6_bitCount_0f7a4 10 = .ok (.iload_n 0, 1) := by decide +kernel
theorem dJ6_bitCount_0f7a4_11 : decode cJ6_bitCount_0f7a4 11 = .ok (.ldc_w 266, 3) := by decide +kernel
theorem dJ6_bitCount_0f7a4_14 : decode cJ6_bitCount_0f7a4 14 = .ok (.iand, 1) := by decide +kernel
theorem dJ6_bitCount_0f7a4_15 : decode cJ6_bitCount_0f7a4 15 = .ok (.iload_n 0, 1) := by decide +kernel
theorem dJ6_bitCount_0f7a4_16 : decode cJ6_bitCount_0f7a4 16 = .ok (.iconst 2, 1) := by decide +kernel
theorem dJ6_bitCount_0f7a4_17 : decode cJ6_bitCount_0f7a4 17 = .ok (.iushr, 1) := by decide +kernel
theorem dJ6_bitCount_0f7a4_18 : decode cJ6_bitCount_0f7a4 18 = .ok (.ldc_w 266, 3) := by decide +kernel
theorem dJ6_bitCount_0f7a4_21 : decode cJ6_bitCount_0f7a4 21 = .ok (.iand, 1) := by decide +kernel
theorem dJ6_bitCount_0f7a4_22 : decode cJ6_bitCount_0f7a4 22 = .ok (.iadd, 1) := by decide +kernel
theorem dJ6_bitCount_0f7a4_23 : decode cJ6_bitCount_0f7a4 23 = .ok (.istore_n 0, 1) := by decide +kernel
theorem dJ6_bitCount_0f7a4_24 : decode cJ6_bitCount_0f7a4 24 = .ok (.iload_n 0, 1) := by decide +kernel
theorem dJ6_bitCount_0f7a4_25 : decode cJ6_bitCount_0f7a4 25 = .ok (.iload_n 0, 1) := by decide +kernel
theorem dJ6_bitCount_0f7a4_26 : decode cJ6_bitCount_0f7a4 26 = .ok (.iconst 4, 1) := by decide +kernel
theorem dJ6_bitCount_0f7a4_27 : decode cJ6_bitCount_0f7a4 27 = .ok (.iushr, 1) := by decide +kernel
theorem dJ6_bitCount_0f7a4_28 : decode cJ6_bitCount_0f7a4 28 = .ok (.iadd, 1) := by decide +kernel
theorem dJ6_bitCount_0f7a4_29 : decode cJ6_bitCount_0f7a4 29 = .ok (.ldc_w 267, 3) := by decide +kernel
theorem dJ6_bitCount_0f7a4_32 : decode cJ6_bitCount_0f7a4 32 = .ok (.iand, 1) := by decide +kernel
theorem dJ6_bitCount_0f7a4_33 : decode cJ6_bitCount_0f7a4 33 = .ok (.istore_n 0, 1) := by decide +kernel
theorem dJ6_bitCount_0f7a4_34 : decode cJ6_bitCount_0f7a4 34 = .ok (.iload_n 0, 1) := by decide +kernel
theorem dJ6_bitCount_0f7a4_35 : decode cJ6_bitCount_0f7a4 35 = .ok (.iload_n 0, 1) := by decide +kernel
theorem dJ6_bitCount_0f7a4_36 : decode cJ6_bitCount_0f7a4 36 = .ok (.bipush 8, 2) := by decide +kernel
theorem dJ6_bitCount_0f7a4_38 : decode cJ6_bitCount_0f7a4 38 = .ok (.iushr, 1) := by decide +kernel
theorem dJ6_bitCount_0f7a4_39 : decode cJ6_bitCount_0f7a4 39 = .ok (.iadd, 1) := by decide +kernel
theorem dJ6_bitCount_0f7a4_40 : decode cJ6_bitCount_0f7a4 40 = .ok (.istore_n 0, 1) := by decide +kernel
theorem dJ6_bitCount_0f7a4_41 : decode cJ6_bitCount_0f7a4 41 = .ok (.iload_n 0, 1) := by decide +kernel
theorem dJ6_bitCount_0f7a4_42 : decode cJ6_bitCount_0f7a4 42 = .ok (.iload_n 0, 1) := by decide +kernel
theorem dJ6_bitCount_0f7a4_43 : decode cJ6_bitCount_0f7a4 43 = .ok (.bipush 16, 2) := by decide +kernel
theorem dJ6_bitCount_0f7a4_45 : decode cJ6_bitCount_0f7a4 45 = .ok (.iushr, 1) := by decide +kernel
theorem dJ6_bitCount_0f7a4_46 : decode cJ6_bitCount_0f7a4 46 = .ok (.iadd, 1) := by decide +kernel
theorem dJ6_bitCount_0f7a4_47 : decode cJ6_bitCount_0f7a4 47 = .ok (.istore_n 0, 1) := by decide +kernel
theorem dJ6_bitCount_0f7a4_48 : decode cJ6_bitCount_0f7a4 48 = .ok (.iload_n 0, 1) := by decide +kernel
theorem dJ6_bitCount_0f7a4_49 : decode cJ6_bitCount_0f7a4 49 = .ok (.bipush 63, 2) := by decide +kernel
theorem dJ6_bitCount_0f7a4_51 : decode cJ6_bitCount_0f7a4 51 = .ok (.iand, 1) := by decide +kernel
theorem dJ6_bitCount_0f7a4_52 : decode cJ6_bitCount_0f7a4 52 = .ok (.ireturn, 1) := by decide +kernel
theorem dJ9_max_7cf53_0 : decode cJ9_max_7cf53 0 = .ok (.iload_n 0, 1) := by decide +kernel
theorem dJ9_max_7cf53_1 : decode cJ9_max_7cf53 1 = .ok (.iload_n 1, 1) := by decide +kernel
theorem dJ9_max_7cf53_2 : decode cJ9_max_7cf53 2 = .ok (.if_icmp .lt 7, 3) := by decide +kernel
theorem dJ9_max_7cf53_5 : decode cJ9_max_7cf53 5 = .ok (.iload_n 0, 1) := by decide +kernel
theorem dJ9_max_7cf53_6 : decode cJ9_max_7cf53 6 = .ok (.goto 4, 3) := by decide +kernel
theorem dJ9_max_7cf53_9 : decode cJ9_max_7cf53 9 = .ok (.iload_n 1, 1) := by decide +kernel
theorem dJ9_max_7cf53_10 : decode cJ9_max_7cf53 10 = .ok (.ireturn, 1) := by decide +kernel
theorem dJ9_min_7cf53_0 : decode cJ9_min_7cf53 0 = .ok (.iload_n 0, 1) := by decide +kernel
theorem dJ9_min_7cf53_1 : decode cJ9_min_7cf53 1 = .ok (.iload_n 1, 1) := by decide +kernel
theorem dJ9_min_7cf53_2 : decode cJ9_min_7cf53 2 = .ok (.if_icmp .gt 7, 3) := by decide +kernel
theorem dJ9_min_7cf53_5 : decode cJ9_min_7cf53 5 = .ok (.iload_n 0, 1) := by decide +kernel
theorem dJ9_min_7cf53_6 : decode cJ9_min_7cf53 6 = .ok (.goto 4, 3) := by decide +kernel
theorem dJ9_min_7cf53_9 : decode cJ9_min_7cf53 9 = .ok (.iload_n 1, 1) := by decide +kernel
theorem dJ9_min_7cf53_10 : decode cJ9_min_7cf53 10 = .ok (.ireturn, 1) := by decide +kernel
abbrev vwCl : List vw_C := [(RX0, TX0, 4), (RX1, TX1, 3), (RX2, TX2, 6), (RX3, TX3, 8), (RX4, TX4, 10)]
end
section
/-! rows of my own: cells one by one (va_at), numbers as nI, calls by contracts that speak of a heap -/
abbrev gT : Type := ClassId × ClassId × ClassId × ClassId
abbrev tysG (t : gT) : List (ClassId × FieldType) := [(t.1, .int), (t.2.1, .array .int), (t.2.2.1, .boolean), (t.2.2.2, .object RX2)]
abbrev KK (G : va_G) (t : gT) (U : State) : Prop := va_K G vwCl (tysG t) U
abbrev at_ (G : va_G) (a : Nat) (e : va_E) (H : Heap) : Prop := va_at G vwCl (a, e) H
abbrev aI (t : gT) (n : Nat) (f : Nat → Int32) : va_E := .inl (t.1, n, .inl f)
abbrev aZ (t : gT) (n : Nat) (f : Nat → Int32) : va_E := .inl (t.2.2.1, n, .inl f)
abbrev aR (t : gT) (n : Nat) (f : Nat → Option Nat) : va_E := .inl (t.2.1, n, .inr (.inr (.inr (.inr f))))
abbrev aQ (t : gT) (n : Nat) (f : Nat → Option Nat) : va_E := .inl (t.2.2.2, n, .inr (.inr (.inr (.inr f))))
theorem at_kept {G : va_G} {a : Nat} {e : va_E} {H H1 : Heap} (h : at_ G a e H) (hq : H1[a]? = H[a]?) : at_ G a e H1 := va_at.kept h hq
theorem at_keptA {G : va_G} {a : Nat} {e : va_E} {H H1 : Heap} {A : Nat → Prop} (h : at_ G a e H) (hk : ∀ q : Nat, q < H.size → ¬ A q → H1[q]? = H[q]?) (ha : ¬ A a) : at_ G a e H1 := va_at.kept h (hk a (va_at.lt h) ha)
theorem at_P {D : va_G} {cl : List vw_C} {q : Nat × va_E} {H : Heap} (h : va_at D cl q H) : va_P D cl [q] H := by
  intro k x hk
  match k, hk with
  | 0, hk => cases hk; exact h
  | k + 1, hk => simp at hk
theorem at_recv {s : State} {H : Heap} {D : va_G} {cl : List vw_C} {a ci : Nat} {q : vw_C} {fs : List Value} {tys : List (ClassId × FieldType)} (hK : va_K D cl tys s) (hat : va_at D cl (a, .inr (ci, fs)) H) (hc : cl[ci]? = some q) : ∃ cell : Cell, H[a]? = some cell ∧ cell.vm.isStatics = false ∧ s.vm.findClass q.1 = some cell.cls := va_recv hK (at_P hat) hc (q0 := 0) rfl
/-- a contract's start -/
def pc_ (av : List Value) (B : State → Heap → Prop) : Array Value → State → Prop := fun v U => v = av.toArray ∧ B U U.heap
def Mv (B : State → Heap → Prop) : Prop := ∀ (u U : State) (H : Heap), u.vm.Alike U.vm → B u H → B U H
theorem pc_blind {av : List Value} {B : State → Heap → Prop} (hmv : Mv B) : FrameBlind (pc_ av B) := fun a U g mk q => by
  obtain ⟨q0, q1⟩ := q
  exact ⟨q0, hmv U (U.calling g mk a) _ (Vm.Alike.refl U.vm) q1⟩
theorem pc_V {s : State} {H : Heap} {C : String} {b : Nat} {av : List Value} {B : State → Heap → Prop} (hmv : Mv B) (hB : B s H) (hr : ∃ cellB : Cell, H[b]? = some cellB ∧ cellB.vm.isStatics = false ∧ s.vm.findClass C = some cellB.cls) : PreV s H C b (pc_ (.ref b :: av) B) av :=
  ⟨pc_blind hmv, hr, fun U hU hW => ⟨rfl, by rw [hU]; exact hmv s U _ hW.alike hB⟩⟩
theorem pc_S {s : State} {H : Heap} {av : List Value} {B : State → Heap → Prop} (hmv : Mv B) (hB : B s H) : PreS s H (pc_ av B) av :=
  ⟨pc_blind hmv, fun U hU hW => ⟨rfl, by rw [hU]; exact hmv s U _ hW.alike hB⟩⟩
theorem mv_T : Mv (fun _ _ => True) := fun _ _ _ _ _ => trivial
theorem mv_P {P : Heap → Prop} : Mv (fun _ H => P H) := fun _ _ _ _ h => h
theorem mv_K {G : va_G} {t : gT} {P : Heap → Prop} : Mv (fun U H => KK G t U ∧ P H) := fun _ _ _ h q => ⟨va_K.moved h q.1, q.2⟩
def bI (b : Bool) : Int32 := if b = true then 1 else 0
theorem bI_t : bI true = 1 := rfl
theorem bI_f : bI false = 0 := rfl
/-- ends of contracts that change the heap -/
def qv_ (P : Heap → Prop) (A : Nat → Prop) : Array Value → State → Outcome → State → Prop := va_Qv (fun _ : Unit => True) (fun _ t => P t.heap) A
def qi_ (P : Int32 → Heap → Prop) (A : Nat → Prop) : Array Value → State → Outcome → State → Prop := va_Qi (fun (r : Int32) (u : Int32) => r = u) (fun u t => P u t.heap) A
section RW1
variable {p : Program} {l : Launch} {e : Env} {R : Room} {s : State} {m : MethodId} {args : Array Value} {below : List Frame} {meth : Method} {c : Code} {H : Heap} {locs : List Loc} {cells slots : Nat} {Q : State → Prop}
variable {cc : ByteArray} {pc : Nat} {ls : Array Slot} {rest : List Value} {D : va_G} {cl : List vw_C} {A : Nat → Prop} {a : Nat} {tys : List (ClassId × FieldType)} {H0 : Heap}
theorem r_get (hexec : p.tables.exec = Jvm.exec) (hb : c.code = cc) {own C : String} {T : u_T} {N ci index : Nat} {Ts : List Cond} (hts : ∀ w ∈ Ts, w.before args s = true) (hin : ∀ w ∈ u_ws C T N, w ∈ Ts) (hown : s.vm.findClass own = some m.cls) (hK : va_K D cl tys s) {fs : List Value} (hat : va_at D cl (a, .inr (ci, fs)) H) (hc : cl[ci]? = some (C, T, N)) (k : Nat) (hk : k < N) (hlink : (Cond.fieldLink own index (T k).1 (T k).2.1 (T k).2.2.1).before args s = true) {v : Value} (hv : fs[k]? = some v) (hdg : decode cc pc = .ok (.getfield index, 3))
    (kk : W p l e R s m args below meth c H locs cells slots Q (F0 m (pc + 3) ls (v :: rest))) : W p l e R s m args below meth c H locs cells slots Q (F0 m pc ls (.ref a :: rest)) :=
  va_get hexec hb hts hin hown hK (at_P hat) 0 rfl hc k hk hlink (fun _ h => h) hv hdg kk
theorem r_put (hexec : p.tables.exec = Jvm.exec) (hb : c.code = cc) {own C : String} {T : u_T} {N ci index : Nat} {Ts : List Cond} (hts : ∀ w ∈ Ts, w.before args s = true) (hin : ∀ w ∈ u_ws C T N, w ∈ Ts) (ty0 : Nat → FieldType) (hty : ∀ k, k < N → parseFieldDescriptor (T k).2.2.1 = some (ty0 k)) (hnm : ∀ a, a < N → ∀ b, b < N → a ≠ b → (T a).2.1 ≠ (T b).2.1) (hown : s.vm.findClass own = some m.cls) (hK : va_K D cl tys s) {fs fs' : List Value} (hat : va_at D cl (a, .inr (ci, fs)) H) (ha : A a) (hS0 : va_S A H0 H locs) (hc : cl[ci]? = some (C, T, N)) (k : Nat) (hk : k < N) (hlink : (Cond.fieldLink own index (T k).1 (T k).2.1 (T k).2.2.1).before args s = true) (hfin : (T k).2.2.2 = false) {ty : FieldType} {v : Value} (hd : parseFieldDescriptor (T k).2.2.1 = some ty) (hn : narrow ty v = v) (hfit : fits ty v = true) (hl : k < fs.length) (hfs : fs.set k v = fs')
    (hdg : decode cc pc = .ok (.putfield index, 3)) (kk : ∀ (H1 : Heap) (locs1 : List Loc), va_at D cl (a, .inr (ci, fs')) H1 → H1.size = H.size → (∀ q : Nat, q ≠ a → H1[q]? = H[q]?) → va_S A H0 H1 locs1 → W p l e R s m args below meth c H1 locs1 cells slots Q (F0 m (pc + 3) ls rest)) : W p l e R s m args below meth c H locs cells slots Q (F0 m pc ls (v :: .ref a :: rest)) := by
  subst hfs
  have hap := va_apart (own := own) hts hin ty0 hty hnm hK hc
  obtain ⟨r, h1, cell, q1, q2, q3, q4⟩ := hat
  have hr : r = (C, T, N) := Option.some.inj (h1.symm.trans hc)
  subst hr
  obtain ⟨hS, hfc, kC, hkC, hkind⟩ := hK.1 ci _ hc
  obtain ⟨cf, kf, fi, f, hi, hsl⟩ := hS k hk
  have hlay := hts _ (hin _ (u_in_lay hk))
  unfold u_lay at hlay
  rw [if_neg (by rw [hfin]; decide)] at hlay
  have hst := (u_facts hfc hkC (u_lays hts hin hk) hi).1
  have h6 := u_store hfc hkC hkind hlay hi hd hn hfit
  refine W.putK hexec hb (f := f) ⟨hown, hlink, ⟨_, _, _, hi⟩, hst⟩ (by rw [q2]; exact h6) q1 q3 (by rw [hsl]; exact k2_hasslot (q4 k hk)) rfl rfl hdg fun H' e1 e2 e3 => ?_
  rw [hsl] at e1 ⊢
  exact kk H' _ ⟨_, hc, t_OB.to (V := updV (vp_V fs) k v) ⟨_, e1, q2, q3, t_set q4 hap hk v⟩ (fun j _ => vp_updV_set hl v j)⟩ e2 e3 (hS0.put e2 e3 ha)
theorem r_putF (hexec : p.tables.exec = Jvm.exec) (hb : c.code = cc) {own C : String} {T : u_T} {N ci index : Nat} {Ts : List Cond} (hts : ∀ w ∈ Ts, w.before args s = true) (hin : ∀ w ∈ u_ws C T N, w ∈ Ts) (ty0 : Nat → FieldType) (hty : ∀ k, k < N → parseFieldDescriptor (T k).2.2.1 = some (ty0 k)) (hnm : ∀ a, a < N → ∀ b, b < N → a ≠ b → (T a).2.1 ≠ (T b).2.1) (hown : s.vm.findClass own = some m.cls) (hK : va_K D cl tys s) {fs fs' : List Value} (hat : va_at D cl (a, .inr (ci, fs)) H) (ha : A a) (hS0 : va_S A H0 H locs) (hc : cl[ci]? = some (C, T, N)) (k : Nat) (hk : k < N) (hlink : (Cond.fieldLink own index (T k).1 (T k).2.1 (T k).2.2.1).before args s = true) (hfin : (T k).2.2.2 = true) (hin2 : meth.name = "<init>") (hdecl : (T k).1 = own) {ty : FieldType} {v : Value} (hd : parseFieldDescriptor (T k).2.2.1 = some ty) (hn : narrow ty v = v) (hfit : fits ty v = true) (hl : k < fs.length) (hfs : fs.set k v = fs')
    (hdg : decode cc pc = .ok (.putfield index, 3)) (kk : ∀ (H1 : Heap) (locs1 : List Loc), va_at D cl (a, .inr (ci, fs')) H1 → H1.size = H.size → (∀ q : Nat, q ≠ a → H1[q]? = H[q]?) → va_S A H0 H1 locs1 → W p l e R s m args below meth c H1 locs1 cells slots Q (F0 m (pc + 3) ls rest)) : W p l e R s m args below meth c H locs cells slots Q (F0 m pc ls (v :: .ref a :: rest)) := by
  subst hfs
  have hap := va_apart (own := own) hts hin ty0 hty hnm hK hc
  obtain ⟨r, h1, cell, q1, q2, q3, q4⟩ := hat
  have hr : r = (C, T, N) := Option.some.inj (h1.symm.trans hc)
  subst hr
  obtain ⟨hS, hfc, kC, hkC, hkind⟩ := hK.1 ci _ hc
  obtain ⟨cf, kf, fi, f, hi, hsl⟩ := hS k hk
  have hlay := hts _ (hin _ (u_in_lay hk))
  unfold u_lay at hlay
  rw [if_pos hfin] at hlay
  have hst := (u_facts hfc hkC (u_lays hts hin hk) hi).1
  have hcf : m.cls = cf := by
    obtain ⟨_, _, c', _, _, _, -, -, hf', -, -, -, hown2, -⟩ := Cond.laysFinal_spec hlay
    have e1 : c' = cf := by have := hi.symm.trans hf'; simp at this; exact this.1.symm
    rw [hdecl] at hown2
    rw [← e1]; exact Option.some.inj (hown.symm.trans hown2)
  have h6 := u_fits hfc hkC hkind (Or.inr hlay) hi hd hn hfit
  refine W.putFinK hexec hb hown hlink hi hst hcf hin2 (by rw [q2]; exact h6) q1 q3 (by rw [hsl]; exact k2_hasslot (q4 k hk)) rfl rfl hdg fun H' e1 e2 e3 => ?_
  rw [hsl] at e1 ⊢
  exact kk H' _ ⟨_, hc, t_OB.to (V := updV (vp_V fs) k v) ⟨_, e1, q2, q3, t_set q4 hap hk v⟩ (fun j _ => vp_updV_set hl v j)⟩ e2 e3 (hS0.put e2 e3 ha)
theorem r_iald (hexec : p.tables.exec = Jvm.exec) (hb : c.code = cc) (hK : va_K D cl tys s) {cA : ClassId} {n : Nat} {f : Nat → Int32} (hat : va_at D cl (a, .inl (cA, n, .inl f)) H) (ht : tys[0]? = some (cA, .int)) (j : Nat) (hj : j < n) (hn : n < 2 ^ 31) {v : Int32} (hv : f j = v) (hdg : decode cc pc = .ok (.iaload, 1))
    (kk : W p l e R s m args below meth c H locs cells slots Q (F0 m (pc + 1) ls (.int v :: rest))) : W p l e R s m args below meth c H locs cells slots Q (F0 m pc ls (.int (nI j) :: .ref a :: rest)) := by
  subst hv
  refine va_iald hexec hb hK (at_P hat) 0 0 rfl ht (vp_in_nI hj hn) hdg ?_
  rw [nI_clamp (Nat.lt_trans hj hn)]
  exact kk
theorem r_zald (hexec : p.tables.exec = Jvm.exec) (hb : c.code = cc) (hK : va_K D cl tys s) {cA : ClassId} {n : Nat} {f : Nat → Int32} (hat : va_at D cl (a, .inl (cA, n, .inl f)) H) (ht : tys[2]? = some (cA, .boolean)) (j : Nat) (hj : j < n) (hn : n < 2 ^ 31) {v : Int32} (hv : f j = v) (hdg : decode cc pc = .ok (.baload, 1))
    (kk : W p l e R s m args below meth c H locs cells slots Q (F0 m (pc + 1) ls (.int v :: rest))) : W p l e R s m args below meth c H locs cells slots Q (F0 m pc ls (.int (nI j) :: .ref a :: rest)) := by
  subst hv
  refine va_zald hexec hb hK (at_P hat) 0 2 rfl ht (vp_in_nI hj hn) hdg ?_
  rw [nI_clamp (Nat.lt_trans hj hn)]
  exact kk
theorem r_rald (hexec : p.tables.exec = Jvm.exec) (hb : c.code = cc) (hK : va_K D cl tys s) {cA : ClassId} {n : Nat} {f : Nat → Option Nat} {ty : FieldType} (hat : va_at D cl (a, .inl (cA, n, .inr (.inr (.inr (.inr f))))) H) (t0 : Nat) (ht : tys[t0]? = some (cA, ty)) (hty : ty.isReference = true) (j : Nat) (hj : j < n) (hn : n < 2 ^ 31) {b : Nat} (hv : f j = some b) (hdg : decode cc pc = .ok (.aaload, 1))
    (kk : W p l e R s m args below meth c H locs cells slots Q (F0 m (pc + 1) ls (.ref b :: rest))) : W p l e R s m args below meth c H locs cells slots Q (F0 m pc ls (.int (nI j) :: .ref a :: rest)) := by
  have hin : vp_in (nI j) n := vp_in_nI hj hn
  have hc : (nI j).toNatClampNeg = j := nI_clamp (Nat.lt_trans hj hn)
  exact W.aald (v := .ref b) (ty := ty) hexec hb hat ((hK.2 t0 _ ht).1 n (fun j => va_rf (f j))) hty (fun q => by cases q) (by show ¬ (nI j < 0 ∨ (arrV _ _ _).slots.size ≤ _); rw [arrV_size]; exact hin) (by show (arrV _ _ _).slots[_]? = _; rw [hc, arrV_read _ _ hj, hv]; rfl) rfl rfl hdg kk
theorem r_alenI (hexec : p.tables.exec = Jvm.exec) (hb : c.code = cc) (hK : va_K D cl tys s) {cA : ClassId} {x : vp_A} (hat : va_at D cl (a, .inl (cA, x)) H) (t0 : Nat) {ty : FieldType} (ht : tys[t0]? = some (cA, ty)) (hdg : decode cc pc = .ok (.arraylength, 1))
    (kk : W p l e R s m args below meth c H locs cells slots Q (F0 m (pc + 1) ls (.int (nI x.1) :: rest))) : W p l e R s m args below meth c H locs cells slots Q (F0 m pc ls (.ref a :: rest)) :=
  va_alen hexec hb hK (at_P hat) 0 t0 rfl ht rfl hdg kk
theorem r_iast (hexec : p.tables.exec = Jvm.exec) (hb : c.code = cc) (hK : va_K D cl tys s) {cA : ClassId} {n : Nat} {f : Nat → Int32} (hat : va_at D cl (a, .inl (cA, n, .inl f)) H) (ha : A a) (hS : va_S A H0 H locs) (ht : tys[0]? = some (cA, .int)) (j : Nat) (hj : j < n) (hn : n < 2 ^ 31) {x : Int32} (hdg : decode cc pc = .ok (.iastore, 1))
    (kk : ∀ (H1 : Heap) (locs1 : List Loc), va_at D cl (a, .inl (cA, n, .inl (upd f j x))) H1 → H1.size = H.size → (∀ q : Nat, q ≠ a → H1[q]? = H[q]?) → va_S A H0 H1 locs1 → W p l e R s m args below meth c H1 locs1 cells slots Q (F0 m (pc + 1) ls rest)) : W p l e R s m args below meth c H locs cells slots Q (F0 m pc ls (.int x :: .int (nI j) :: .ref a :: rest)) := by
  have hin : vp_in (nI j) n := vp_in_nI hj hn
  have hc : (nI j).toNatClampNeg = j := nI_clamp (Nat.lt_trans hj hn)
  refine W.iast hexec hb hat ((hK.2 0 _ ht).1 n (fun j => .int (f j))) (fun q => by cases q) (by show ¬ (nI j < 0 ∨ (arrV _ _ _).slots.size ≤ _); rw [arrV_size]; exact hin) rfl rfl hdg fun H1 e z oq => ?_
  refine kk H1 _ ?_ z oq (hS.put z oq ha)
  show H1[a]? = some (vp_cell _ _)
  rw [e]
  rw [hc, vp_cell_i, vp_cell_i, arrV_store]
  congr 2
  funext q
  by_cases hq : q = j
  · subst hq
    simp [updV, upd]
  · simp [updV, upd, hq]
theorem r_zast (hexec : p.tables.exec = Jvm.exec) (hb : c.code = cc) (hK : va_K D cl tys s) {cA : ClassId} {n : Nat} {f : Nat → Int32} (hat : va_at D cl (a, .inl (cA, n, .inl f)) H) (ha : A a) (hS : va_S A H0 H locs) (ht : tys[2]? = some (cA, .boolean)) (j : Nat) (hj : j < n) (hn : n < 2 ^ 31) {x : Int32} (hx : narrow .boolean (.int x) = .int x) (hdg : decode cc pc = .ok (.bastore, 1))
    (kk : ∀ (H1 : Heap) (locs1 : List Loc), va_at D cl (a, .inl (cA, n, .inl (upd f j x))) H1 → H1.size = H.size → (∀ q : Nat, q ≠ a → H1[q]? = H[q]?) → va_S A H0 H1 locs1 → W p l e R s m args below meth c H1 locs1 cells slots Q (F0 m (pc + 1) ls rest)) : W p l e R s m args below meth c H locs cells slots Q (F0 m pc ls (.int x :: .int (nI j) :: .ref a :: rest)) := by
  have hin : vp_in (nI j) n := vp_in_nI hj hn
  have hc : (nI j).toNatClampNeg = j := nI_clamp (Nat.lt_trans hj hn)
  refine W.zast hexec hb hat ((hK.2 2 _ ht).1 n (fun j => .int (f j))) (fun q => by cases q) (by show ¬ (nI j < 0 ∨ (arrV _ _ _).slots.size ≤ _); rw [arrV_size]; exact hin) rfl rfl hdg fun H1 e z oq => ?_
  refine kk H1 _ ?_ z oq (hS.put z oq ha)
  show H1[a]? = some (vp_cell _ _)
  rw [e]
  rw [hc, vp_cell_i, vp_cell_i, arrV_store]
  congr 2
  funext q
  by_cases hq : q = j
  · subst hq
    simp [updV, upd, hx]
  · simp [updV, upd, hq]
/-- the top of the stack under another name -/
theorem r_top {x y : Int32} (h : x = y) (k : W p l e R s m args below meth c H locs cells slots Q (F0 m pc ls (.int y :: rest))) : W p l e R s m args below meth c H locs cells slots Q (F0 m pc ls (.int x :: rest)) := by rw [h]; exact k
theorem r_topL {x y : Int64} (h : x = y) (k : W p l e R s m args below meth c H locs cells slots Q (F0 m pc ls (.long y :: rest))) : W p l e R s m args below meth c H locs cells slots Q (F0 m pc ls (.long x :: rest)) := by rw [h]; exact k
theorem r_iaddN (hexec : p.tables.exec = Jvm.exec) (hb : c.code = cc) {a b : Nat} (hdg : decode cc pc = .ok (.iadd, 1))
    (k : W p l e R s m args below meth c H locs cells slots Q (F0 m (pc + 1) ls (.int (nI (a + b)) :: rest))) : W p l e R s m args below meth c H locs cells slots Q (F0 m pc ls (.int (nI b) :: .int (nI a) :: rest)) :=
  lv_iadd hexec hb hdg (r_top (nI_add a b) k)
theorem r_imulN (hexec : p.tables.exec = Jvm.exec) (hb : c.code = cc) {a b : Nat} (hdg : decode cc pc = .ok (.imul, 1))
    (k : W p l e R s m args below meth c H locs cells slots Q (F0 m (pc + 1) ls (.int (nI (a * b)) :: rest))) : W p l e R s m args below meth c H locs cells slots Q (F0 m pc ls (.int (nI b) :: .int (nI a) :: rest)) :=
  lv_imul hexec hb hdg (r_top (pk_mul a b) k)
theorem r_isubN (hexec : p.tables.exec = Jvm.exec) (hb : c.code = cc) {a b : Nat} (h : b ≤ a) (hdg : decode cc pc = .ok (.isub, 1))
    (k : W p l e R s m args below meth c H locs cells slots Q (F0 m (pc + 1) ls (.int (nI (a - b)) :: rest))) : W p l e R s m args below meth c H locs cells slots Q (F0 m pc ls (.int (nI b) :: .int (nI a) :: rest)) :=
  lv_isub hexec hb hdg (r_top (pk_sub h) k)
theorem r_idivN (hexec : p.tables.exec = Jvm.exec) (hb : c.code = cc) {a b : Nat} (ha : a < 2 ^ 31) (h0 : 0 < b) (hb2 : b < 2 ^ 31) (hdg : decode cc pc = .ok (.idiv, 1))
    (k : W p l e R s m args below meth c H locs cells slots Q (F0 m (pc + 1) ls (.int (nI (a / b)) :: rest))) : W p l e R s m args below meth c H locs cells slots Q (F0 m pc ls (.int (nI b) :: .int (nI a) :: rest)) :=
  lv_idiv hexec hb hdg (nI_ne0 h0 hb2) (r_top (pk_div ha h0 hb2) k)
theorem r_iremN (hexec : p.tables.exec = Jvm.exec) (hb : c.code = cc) {a b : Nat} (ha : a < 2 ^ 31) (h0 : 0 < b) (hb2 : b < 2 ^ 31) (hdg : decode cc pc = .ok (.irem, 1))
    (k : W p l e R s m args below meth c H locs cells slots Q (F0 m (pc + 1) ls (.int (nI (a % b)) :: rest))) : W p l e R s m args below meth c H locs cells slots Q (F0 m pc ls (.int (nI b) :: .int (nI a) :: rest)) :=
  lv_irem hexec hb hdg (nI_ne0 h0 hb2) (r_top (pk_rem ha h0 hb2) k)
theorem r_iandN (hexec : p.tables.exec = Jvm.exec) (hb : c.code = cc) {a b : Nat} (hdg : decode cc pc = .ok (.iand, 1))
    (k : W p l e R s m args below meth c H locs cells slots Q (F0 m (pc + 1) ls (.int (nI (a &&& b)) :: rest))) : W p l e R s m args below meth c H locs cells slots Q (F0 m pc ls (.int (nI b) :: .int (nI a) :: rest)) :=
  lv_iand hexec hb hdg (r_top (by
    apply Int32.toBitVec_inj.1
    show BitVec.ofNat 32 a &&& BitVec.ofNat 32 b = BitVec.ofNat 32 (a &&& b)
    apply BitVec.eq_of_getLsbD_eq
    intro i hi
    simp [hi]) k)
/-- branches over numbers -/
theorem r_ltN (hexec : p.tables.exec = Jvm.exec) (hb : c.code = cc) {a b : Nat} {off : Int} {tgt : Nat} (ha : a < 2 ^ 31) (hb2 : b < 2 ^ 31) (hdg : decode cc pc = .ok (.if_icmp .lt off, 3)) (ht : (pc : Int) + off = (tgt : Int))
    (kt : a < b → W p l e R s m args below meth c H locs cells slots Q (F0 m tgt ls rest)) (kf : b ≤ a → W p l e R s m args below meth c H locs cells slots Q (F0 m (pc + 3) ls rest)) : W p l e R s m args below meth c H locs cells slots Q (F0 m pc ls (.int (nI b) :: .int (nI a) :: rest)) :=
  lv_icmp_lt hexec hb hdg ht (fun h => kt ((nI_ltI ha hb2).mp h)) (fun h => kf (Nat.not_lt.mp fun q => h ((nI_ltI ha hb2).mpr q)))
theorem r_geN (hexec : p.tables.exec = Jvm.exec) (hb : c.code = cc) {a b : Nat} {off : Int} {tgt : Nat} (ha : a < 2 ^ 31) (hb2 : b < 2 ^ 31) (hdg : decode cc pc = .ok (.if_icmp .ge off, 3)) (ht : (pc : Int) + off = (tgt : Int))
    (kt : b ≤ a → W p l e R s m args below meth c H locs cells slots Q (F0 m tgt ls rest)) (kf : a < b → W p l e R s m args below meth c H locs cells slots Q (F0 m (pc + 3) ls rest)) : W p l e R s m args below meth c H locs cells slots Q (F0 m pc ls (.int (nI b) :: .int (nI a) :: rest)) :=
  lv_icmp_ge hexec hb hdg ht (fun h => kt ((nI_leI hb2 ha).mp h)) (fun h => kf (Nat.not_le.mp fun q => h ((nI_leI hb2 ha).mpr q)))
theorem r_gtN (hexec : p.tables.exec = Jvm.exec) (hb : c.code = cc) {a b : Nat} {off : Int} {tgt : Nat} (ha : a < 2 ^ 31) (hb2 : b < 2 ^ 31) (hdg : decode cc pc = .ok (.if_icmp .gt off, 3)) (ht : (pc : Int) + off = (tgt : Int))
    (kt : b < a → W p l e R s m args below meth c H locs cells slots Q (F0 m tgt ls rest)) (kf : a ≤ b → W p l e R s m args below meth c H locs cells slots Q (F0 m (pc + 3) ls rest)) : W p l e R s m args below meth c H locs cells slots Q (F0 m pc ls (.int (nI b) :: .int (nI a) :: rest)) :=
  lv_icmp_gt hexec hb hdg ht (fun h => kt ((nI_ltI hb2 ha).mp h)) (fun h => kf (Nat.not_lt.mp fun q => h ((nI_ltI hb2 ha).mpr q)))
theorem r_leN (hexec : p.tables.exec = Jvm.exec) (hb : c.code = cc) {a b : Nat} {off : Int} {tgt : Nat} (ha : a < 2 ^ 31) (hb2 : b < 2 ^ 31) (hdg : decode cc pc = .ok (.if_icmp .le off, 3)) (ht : (pc : Int) + off = (tgt : Int))
    (kt : a ≤ b → W p l e R s m args below meth c H locs cells slots Q (F0 m tgt ls rest)) (kf : b < a → W p l e R s m args below meth c H locs cells slots Q (F0 m (pc + 3) ls rest)) : W p l e R s m args below meth c H locs cells slots Q (F0 m pc ls (.int (nI b) :: .int (nI a) :: rest)) :=
  lv_icmp_le hexec hb hdg ht (fun h => kt ((nI_leI ha hb2).mp h)) (fun h => kf (Nat.not_le.mp fun q => h ((nI_leI ha hb2).mpr q)))
theorem r_eqN (hexec : p.tables.exec = Jvm.exec) (hb : c.code = cc) {a b : Nat} {off : Int} {tgt : Nat} (ha : a < 2 ^ 31) (hb2 : b < 2 ^ 31) (hdg : decode cc pc = .ok (.if_icmp .eq off, 3)) (ht : (pc : Int) + off = (tgt : Int))
    (kt : a = b → W p l e R s m args below meth c H locs cells slots Q (F0 m tgt ls rest)) (kf : ¬ a = b → W p l e R s m args below meth c H locs cells slots Q (F0 m (pc + 3) ls rest)) : W p l e R s m args below meth c H locs cells slots Q (F0 m pc ls (.int (nI b) :: .int (nI a) :: rest)) :=
  lv_icmp_eq hexec hb hdg ht (fun h => kt ((nI_eq ha hb2).mp h)) (fun h => kf (fun q => h ((nI_eq ha hb2).mpr q)))
theorem r_neN (hexec : p.tables.exec = Jvm.exec) (hb : c.code = cc) {a b : Nat} {off : Int} {tgt : Nat} (ha : a < 2 ^ 31) (hb2 : b < 2 ^ 31) (hdg : decode cc pc = .ok (.if_icmp .ne off, 3)) (ht : (pc : Int) + off = (tgt : Int))
    (kt : ¬ a = b → W p l e R s m args below meth c H locs cells slots Q (F0 m tgt ls rest)) (kf : a = b → W p l e R s m args below meth c H locs cells slots Q (F0 m (pc + 3) ls rest)) : W p l e R s m args below meth c H locs cells slots Q (F0 m pc ls (.int (nI b) :: .int (nI a) :: rest)) :=
  lv_icmp_ne hexec hb hdg ht (fun h => kt (fun q => h ((nI_eq ha hb2).mpr q))) (fun h => kf ((nI_eq ha hb2).mp h))
theorem nI_z {a : Nat} (ha : a < 2 ^ 31) : nI a = 0 ↔ a = 0 := by rw [← nI_0]; exact nI_eq ha (by decide)
theorem r_ifeqN (hexec : p.tables.exec = Jvm.exec) (hb : c.code = cc) {a : Nat} {off : Int} {tgt : Nat} (ha : a < 2 ^ 31) (hdg : decode cc pc = .ok (.ifCond .eq off, 3)) (ht : (pc : Int) + off = (tgt : Int))
    (kt : a = 0 → W p l e R s m args below meth c H locs cells slots Q (F0 m tgt ls rest)) (kf : ¬ a = 0 → W p l e R s m args below meth c H locs cells slots Q (F0 m (pc + 3) ls rest)) : W p l e R s m args below meth c H locs cells slots Q (F0 m pc ls (.int (nI a) :: rest)) :=
  lv_if_eq hexec hb hdg ht (fun h => kt ((nI_z ha).mp h)) (fun h => kf (fun q => h ((nI_z ha).mpr q)))
theorem r_ifneN (hexec : p.tables.exec = Jvm.exec) (hb : c.code = cc) {a : Nat} {off : Int} {tgt : Nat} (ha : a < 2 ^ 31) (hdg : decode cc pc = .ok (.ifCond .ne off, 3)) (ht : (pc : Int) + off = (tgt : Int))
    (kt : ¬ a = 0 → W p l e R s m args below meth c H locs cells slots Q (F0 m tgt ls rest)) (kf : a = 0 → W p l e R s m args below meth c H locs cells slots Q (F0 m (pc + 3) ls rest)) : W p l e R s m args below meth c H locs cells slots Q (F0 m pc ls (.int (nI a) :: rest)) :=
  lv_if_ne hexec hb hdg ht (fun h => kt (fun q => h ((nI_z ha).mpr q))) (fun h => kf ((nI_z ha).mp h))
theorem r_ifleN (hexec : p.tables.exec = Jvm.exec) (hb : c.code = cc) {a : Nat} {off : Int} {tgt : Nat} (ha : a < 2 ^ 31) (hdg : decode cc pc = .ok (.ifCond .le off, 3)) (ht : (pc : Int) + off = (tgt : Int))
    (kt : a = 0 → W p l e R s m args below meth c H locs cells slots Q (F0 m tgt ls rest)) (kf : ¬ a = 0 → W p l e R s m args below meth c H locs cells slots Q (F0 m (pc + 3) ls rest)) : W p l e R s m args below meth c H locs cells slots Q (F0 m pc ls (.int (nI a) :: rest)) :=
  lv_if_le hexec hb hdg ht (fun h => kt (Nat.le_zero.mp ((nI_leI ha (by decide)).mp (nI_0 ▸ h)))) (fun h => kf (fun q => h (by rw [q, nI_0]; exact Int32.le_refl _)))
theorem bI_0 {b : Bool} : bI b = 0 ↔ b = false := by cases b <;> simp [bI]
theorem r_ifeqB (hexec : p.tables.exec = Jvm.exec) (hb : c.code = cc) {b : Bool} {off : Int} {tgt : Nat} (hdg : decode cc pc = .ok (.ifCond .eq off, 3)) (ht : (pc : Int) + off = (tgt : Int))
    (kt : b = false → W p l e R s m args below meth c H locs cells slots Q (F0 m tgt ls rest)) (kf : b = true → W p l e R s m args below meth c H locs cells slots Q (F0 m (pc + 3) ls rest)) : W p l e R s m args below meth c H locs cells slots Q (F0 m pc ls (.int (bI b) :: rest)) :=
  lv_if_eq hexec hb hdg ht (fun h => kt (bI_0.mp h)) (fun h => kf (by cases b with | true => rfl | false => exact absurd rfl h))
theorem r_ifneB (hexec : p.tables.exec = Jvm.exec) (hb : c.code = cc) {b : Bool} {off : Int} {tgt : Nat} (hdg : decode cc pc = .ok (.ifCond .ne off, 3)) (ht : (pc : Int) + off = (tgt : Int))
    (kt : b = true → W p l e R s m args below meth c H locs cells slots Q (F0 m tgt ls rest)) (kf : b = false → W p l e R s m args below meth c H locs cells slots Q (F0 m (pc + 3) ls rest)) : W p l e R s m args below meth c H locs cells slots Q (F0 m pc ls (.int (bI b) :: rest)) :=
  lv_if_ne hexec hb hdg ht (fun h => kt (by cases b with | true => rfl | false => exact absurd rfl h)) (fun h => kf (bI_0.mp h))
end RW1
section RW2
variable {p : Program} {l : Launch} {e : Env} {R : Room} {s : State} {m : MethodId} {args : Array Value} {below : List Frame} {meth : Method} {c : Code} {H : Heap} {locs : List Loc} {cells slots : Nat} {Q : State → Prop}
variable {cc : ByteArray} {pc : Nat} {ls : Array Slot} {rest st0 : List Value} {A A1 : Nat → Prop} {H0 : Heap}
variable {Ts ws : List Cond} {bytes : ByteArray} {nL maxL index n : Nat} {own C : String} {y : MethodName} {ret : Option FieldType} {rm : Room} {b : Nat} {av : List Value} {B : State → Heap → Prop} {lv : List (Nat × Value)}
/-- calls that leave the heap as it was -/
theorem r_cV {post : Int32 → Prop} (hM : Met l y ws rm (pc_ (.ref b :: av) B) (vp_Si post) 0 0 (fun _ => False)) (S : CallFix p m c cc nL s args Ts own) (cw : CallW R s args own C index y bytes maxL ret ws rm 0 0 n) (hmv : Mv B) (hB : B s H) (hr : ∃ cellB : Cell, H[b]? = some cellB ∧ cellB.vm.isStatics = false ∧ s.vm.findClass C = some cellB.cls) (hn : av.length = n) (hl : lv_has ls nL lv) (hW : (rest.map fun v => v.category).sum ≤ 8) (hf : cells ≤ R.cells ∧ slots ≤ R.slots) (hst : st0 = av.reverse ++ .ref b :: rest) (hdg : decode cc pc = .ok (.invokevirtual index, 3))
    (kk : ∀ r : Int32, post r → W p l e R s m args below meth c H locs cells slots Q (F0 m (pc + 3) ls (.int r :: rest))) : W p l e R s m args below meth c H locs cells slots Q (F0 m pc ls st0) :=
  vp_callSi (W.runV S hM cw (pc_V hmv hB hr) rfl hn hl.1 hst (lv_room hW) hdg hf) kk
theorem r_cS {post : Int32 → Prop} (hM : Met l y ws rm (pc_ av B) (vp_Si post) 0 0 (fun _ => False)) (S : CallFix p m c cc nL s args Ts own) (cw : CallB R s args own index y bytes maxL ret ws rm 0 0 n ∧ (Cond.static y).before args s = true) (hmv : Mv B) (hB : B s H) (hn : av.length = n) (hl : lv_has ls nL lv) (hW : (rest.map fun v => v.category).sum ≤ 8) (hf : cells ≤ R.cells ∧ slots ≤ R.slots) (hst : st0 = av.reverse ++ rest) (hdg : decode cc pc = .ok (.invokestatic index, 3))
    (kk : ∀ r : Int32, post r → W p l e R s m args below meth c H locs cells slots Q (F0 m (pc + 3) ls (.int r :: rest))) : W p l e R s m args below meth c H locs cells slots Q (F0 m pc ls st0) :=
  vp_callSi (W.runS S hM cw (pc_S hmv hB) rfl hn hl.1 hst (lv_room hW) hdg hf) kk
theorem r_cSl {post : Int64 → Prop} (hM : Met l y ws rm (pc_ av B) (vp_Sl post) 0 0 (fun _ => False)) (S : CallFix p m c cc nL s args Ts own) (cw : CallB R s args own index y bytes maxL ret ws rm 0 0 n ∧ (Cond.static y).before args s = true) (hmv : Mv B) (hB : B s H) (hn : av.length = n) (hl : lv_has ls nL lv) (hW : (rest.map fun v => v.category).sum ≤ 8) (hf : cells ≤ R.cells ∧ slots ≤ R.slots) (hst : st0 = av.reverse ++ rest) (hdg : decode cc pc = .ok (.invokestatic index, 3))
    (kk : ∀ r : Int64, post r → W p l e R s m args below meth c H locs cells slots Q (F0 m (pc + 3) ls (.long r :: rest))) : W p l e R s m args below meth c H locs cells slots Q (F0 m pc ls st0) :=
  vp_callSl (W.runS S hM cw (pc_S hmv hB) rfl hn hl.1 hst (lv_room hW) hdg hf) kk
/-- calls that change cells of A1 alone -/
theorem r_mV {P : Heap → Prop} (hM : Met l y ws rm (pc_ (.ref b :: av) B) (qv_ P A1) 0 0 A1) (S : CallFix p m c cc nL s args Ts own) (cw : CallW R s args own C index y bytes maxL ret ws rm 0 0 n) (hmv : Mv B) (hB : B s H) (hr : ∃ cellB : Cell, H[b]? = some cellB ∧ cellB.vm.isStatics = false ∧ s.vm.findClass C = some cellB.cls) (hn : av.length = n) (hl : lv_has ls nL lv) (hW : (rest.map fun v => v.category).sum ≤ 8) (hf : cells ≤ R.cells ∧ slots ≤ R.slots) (hst : st0 = av.reverse ++ .ref b :: rest) (hdg : decode cc pc = .ok (.invokevirtual index, 3)) (hS : va_S A H0 H locs) (hA : ∀ q, A1 q → A q)
    (kk : ∀ (H1 : Heap) (locs1 : List Loc), P H1 → H.size ≤ H1.size → (∀ q : Nat, q < H.size → ¬ A1 q → H1[q]? = H[q]?) → va_S A H0 H1 locs1 → W p l e R s m args below meth c H1 locs1 cells slots Q (F0 m (pc + 3) ls rest)) : W p l e R s m args below meth c H locs cells slots Q (F0 m pc ls st0) :=
  va_callv (va_runV S hM cw (pc_V hmv hB hr) rfl hn hl.1 hst (lv_room hW) hdg hf) hS (fun q _ h => hA q h) hA (fun u t H1 locs1 ht _ _ hb hz hk hS1 => kk H1 locs1 (ht ▸ hb) hz hk hS1)
theorem r_mVi {P : Int32 → Heap → Prop} (hM : Met l y ws rm (pc_ (.ref b :: av) B) (qi_ P A1) 0 0 A1) (S : CallFix p m c cc nL s args Ts own) (cw : CallW R s args own C index y bytes maxL ret ws rm 0 0 n) (hmv : Mv B) (hB : B s H) (hr : ∃ cellB : Cell, H[b]? = some cellB ∧ cellB.vm.isStatics = false ∧ s.vm.findClass C = some cellB.cls) (hn : av.length = n) (hl : lv_has ls nL lv) (hW : (rest.map fun v => v.category).sum ≤ 8) (hf : cells ≤ R.cells ∧ slots ≤ R.slots) (hst : st0 = av.reverse ++ .ref b :: rest) (hdg : decode cc pc = .ok (.invokevirtual index, 3)) (hS : va_S A H0 H locs) (hA : ∀ q, A1 q → A q)
    (kk : ∀ (r : Int32) (H1 : Heap) (locs1 : List Loc), P r H1 → H.size ≤ H1.size → (∀ q : Nat, q < H.size → ¬ A1 q → H1[q]? = H[q]?) → va_S A H0 H1 locs1 → W p l e R s m args below meth c H1 locs1 cells slots Q (F0 m (pc + 3) ls (.int r :: rest))) : W p l e R s m args below meth c H locs cells slots Q (F0 m pc ls st0) :=
  va_calli (va_runV S hM cw (pc_V hmv hB hr) rfl hn hl.1 hst (lv_room hW) hdg hf) hS (fun q _ h => hA q h) hA (fun r u t H1 locs1 ht _ hp hb hz hk hS1 => kk r H1 locs1 (by rw [hp, ← ht]; exact hb) hz hk hS1)
theorem r_mS {P : Heap → Prop} (hM : Met l y ws rm (pc_ av B) (qv_ P A1) 0 0 A1) (S : CallFix p m c cc nL s args Ts own) (cw : CallB R s args own index y bytes maxL ret ws rm 0 0 n ∧ (Cond.static y).before args s = true) (hmv : Mv B) (hB : B s H) (hn : av.length = n) (hl : lv_has ls nL lv) (hW : (rest.map fun v => v.category).sum ≤ 8) (hf : cells ≤ R.cells ∧ slots ≤ R.slots) (hst : st0 = av.reverse ++ rest) (hdg : decode cc pc = .ok (.invokestatic index, 3)) (hS : va_S A H0 H locs) (hA : ∀ q, A1 q → A q)
    (kk : ∀ (H1 : Heap) (locs1 : List Loc), P H1 → H.size ≤ H1.size → (∀ q : Nat, q < H.size → ¬ A1 q → H1[q]? = H[q]?) → va_S A H0 H1 locs1 → W p l e R s m args below meth c H1 locs1 cells slots Q (F0 m (pc + 3) ls rest)) : W p l e R s m args below meth c H locs cells slots Q (F0 m pc ls st0) :=
  va_callv (va_runS S hM cw (pc_S hmv hB) rfl hn hl.1 hst (lv_room hW) hdg hf) hS (fun q _ h => hA q h) hA (fun u t H1 locs1 ht _ _ hb hz hk hS1 => kk H1 locs1 (ht ▸ hb) hz hk hS1)
/-- a constructor: it may make cells -/
theorem r_mI {P : Heap → Prop} {mc ms : Nat} (hM : Met l y ws rm (pc_ (.ref b :: av) B) (qv_ P A1) mc ms A1) (S : CallFix p m c cc nL s args Ts own) (cw : CallB R s args own index y bytes maxL none ws rm mc ms n ∧ y.name = "<init>" ∧ (Cond.instanceMethod y).before args s = true) (hmv : Mv B) (hB : B s H) (hn : av.length = n) (hl : lv_has ls nL lv) (hW : (rest.map fun v => v.category).sum ≤ 8) (hf : cells + mc ≤ R.cells ∧ slots + ms ≤ R.slots) (hst : st0 = av.reverse ++ .ref b :: rest) (hdg : decode cc pc = .ok (.invokespecial index, 3)) (hS : va_S A H0 H locs) (hA : ∀ q, A1 q → A q)
    (kk : ∀ (H1 : Heap) (locs1 : List Loc), P H1 → H.size ≤ H1.size → (∀ q : Nat, q < H.size → ¬ A1 q → H1[q]? = H[q]?) → va_S A H0 H1 locs1 → W p l e R s m args below meth c H1 locs1 (cells + mc) (slots + ms) Q (F0 m (pc + 3) ls rest)) : W p l e R s m args below meth c H locs cells slots Q (F0 m pc ls st0) :=
  va_callv (va_runI S hM cw (pc_S hmv hB) rfl hn hl.1 hst (lv_room hW) hdg hf) hS (fun q _ h => hA q h) hA (fun u t H1 locs1 ht _ _ hb hz hk hS1 => kk H1 locs1 (ht ▸ hb) hz hk hS1)
/-- ends -/
theorem r_retS {post : Int32 → Prop} {v : Int32} (hexec : p.tables.exec = Jvm.exec) (hb : c.code = cc) (hr : meth.sig.returnType = some .int) (hlocks : meth.locks = false) (hp : post v) (hdg : decode cc pc = .ok (.ireturn, 1)) : W p l e R s m args below meth c s.heap [] 0 0 (MQ below (vp_Si post) args s 0 0 (fun _ => False)) (F0 m pc ls [.int v]) :=
  W.iret hexec hb hr (fun t ht _ => ⟨v, rfl, hp, ht⟩) (fun q hq => by cases hq) hdg hlocks
theorem r_retZ {post : Int32 → Prop} {v : Int32} (hexec : p.tables.exec = Jvm.exec) (hb : c.code = cc) (hr : meth.sig.returnType = some .boolean) (hlocks : meth.locks = false) (x : Bool) (hx : v = bI x) (hp : post v) (hdg : decode cc pc = .ok (.ireturn, 1)) : W p l e R s m args below meth c s.heap [] 0 0 (MQ below (vp_Si post) args s 0 0 (fun _ => False)) (F0 m pc ls [.int v]) :=
  W.zret hexec hb hr (by subst hx; cases x <;> rfl) (fun t ht _ => ⟨v, rfl, hp, ht⟩) (fun q hq => by cases hq) hdg hlocks
theorem r_retL {post : Int64 → Prop} {v : Int64} (hexec : p.tables.exec = Jvm.exec) (hb : c.code = cc) (hr : meth.sig.returnType = some .long) (hlocks : meth.locks = false) (hp : post v) (hdg : decode cc pc = .ok (.lreturn, 1)) : W p l e R s m args below meth c s.heap [] 0 0 (MQ below (vp_Sl post) args s 0 0 (fun _ => False)) (F0 m pc ls [.long v]) :=
  W.lret hexec hb hr (fun t ht _ => ⟨v, rfl, hp, ht⟩) (fun q hq => by cases hq) hdg hlocks
theorem r_retV {P : Heap → Prop} (hexec : p.tables.exec = Jvm.exec) (hb : c.code = cc) (hr : meth.sig.returnType = none) (hlocks : meth.locks = false) (hS : va_S A s.heap H locs) (hp : P H) (hdg : decode cc pc = .ok (.return_, 1)) : W p l e R s m args below meth c H locs cells slots (MQ below (qv_ P A) args s cells slots A) (F0 m pc ls []) :=
  W.vret hexec hb hr (fun t ht _ => ⟨⟨(), rfl, trivial, by show P t.heap; rw [ht]; exact hp⟩, hS.F ht⟩) hS.2.2 hdg hlocks
theorem r_retI {P : Int32 → Heap → Prop} {v : Int32} (hexec : p.tables.exec = Jvm.exec) (hb : c.code = cc) (hr : meth.sig.returnType = some .int) (hlocks : meth.locks = false) (hS : va_S A s.heap H locs) (hp : P v H) (hdg : decode cc pc = .ok (.ireturn, 1)) : W p l e R s m args below meth c H locs cells slots (MQ below (qi_ P A) args s cells slots A) (F0 m pc ls [.int v]) :=
  W.iret hexec hb hr (fun t ht _ => ⟨⟨v, v, rfl, rfl, by show P v t.heap; rw [ht]; exact hp⟩, hS.F ht⟩) hS.2.2 hdg hlocks
end RW2
end
section
/-! what both sides answer, in numbers: a scene is a row z of 60 ints, as the reference keeps it -/
def zn (z : Nat → Int32) (i : Nat) : Nat := (z i).toNatClampNeg
def prN (n : Nat) : Nat := if n ≤ 2 then 3 else if n ≤ 4 then 5 else if n ≤ 6 then 7 else 11
def cn (z : Nat → Int32) : Nat := zn z 0
def cu (z : Nat → Int32) : Nat := zn z 1
def cs (z : Nat → Int32) : Nat := zn z 2
def uR (z : Nat → Int32) (u : Nat) : Nat := zn z (3 + 5 * u)
def uS (z : Nat → Int32) (u : Nat) : Nat := zn z (3 + 5 * u + 1)
def uT (z : Nat → Int32) (u : Nat) : Nat := zn z (3 + 5 * u + 2)
def uW (z : Nat → Int32) (u : Nat) : Nat := zn z (3 + 5 * u + 3)
def uO (z : Nat → Int32) (u : Nat) : Nat := zn z (3 + 5 * u + 4)
def sU (z : Nat → Int32) (j : Nat) : Int32 := z (28 + 4 * j)
def sC (z : Nat → Int32) (j : Nat) : Nat := zn z (28 + 4 * j + 1)
def sL (z : Nat → Int32) (j : Nat) : Nat := zn z (28 + 4 * j + 2)
def sM (z : Nat → Int32) (j : Nat) : Nat := zn z (28 + 4 * j + 3)
def UF (z : Nat → Int32) (n u : Nat) : Prop := (z (3 + 5 * u) = nI (uR z u) ∧ uR z u ≤ 3) ∧ (z (3 + 5 * u + 1) = nI (uS z u) ∧ uS z u ≤ 99) ∧ (z (3 + 5 * u + 2) = nI (uT z u) ∧ uT z u ≤ 99) ∧ (z (3 + 5 * u + 3) = nI (uW z u) ∧ uW z u ≤ 200) ∧ (z (3 + 5 * u + 4) = nI (uO z u) ∧ uO z u < 2 ^ n)
def SF (z : Nat → Int32) (n j : Nat) : Prop := (sU z j = -1 ∨ ∃ v, v < 5 ∧ sU z j = nI v) ∧ (z (28 + 4 * j + 1) = nI (sC z j) ∧ sC z j < n) ∧ (z (28 + 4 * j + 2) = nI (sL z j) ∧ sL z j ≤ 1500) ∧ (z (28 + 4 * j + 3) = nI (sM z j) ∧ 1 ≤ sM z j ∧ sM z j ≤ 500)
def WF (z : Nat → Int32) : Prop := (z 0 = nI (cn z) ∧ 2 ≤ cn z ∧ cn z ≤ 10) ∧ (z 1 = nI (cu z) ∧ cu z ≤ 5) ∧ (z 2 = nI (cs z) ∧ cs z ≤ 8) ∧ (∀ u, u < cu z → UF z (cn z) u) ∧ ∀ j, j < cs z → SF z (cn z) j
theorem WF.n {z : Nat → Int32} (h : WF z) : 2 ≤ cn z ∧ cn z ≤ 10 := h.1.2
theorem WF.u5 {z : Nat → Int32} (h : WF z) : cu z ≤ 5 := h.2.1.2
theorem WF.s8 {z : Nat → Int32} (h : WF z) : cs z ≤ 8 := h.2.2.1.2
theorem WF.us {z : Nat → Int32} (h : WF z) {u : Nat} (hu : u < cu z) : UF z (cn z) u := h.2.2.2.1 u hu
theorem WF.sp {z : Nat → Int32} (h : WF z) {j : Nat} (hj : j < cs z) : SF z (cn z) j := h.2.2.2.2 j hj
theorem pow_le10 {n : Nat} (h : n ≤ 10) : 2 ^ n ≤ 1024 := by
  have := Nat.pow_le_pow_right (n := 2) (by decide) h
  omega
theorem WF.o {z : Nat → Int32} (h : WF z) {u : Nat} (hu : u < cu z) : uO z u < 1024 := Nat.lt_of_lt_of_le (h.us hu).2.2.2.2.2 (pow_le10 h.n.2)
theorem prN_in (n : Nat) : 3 ≤ prN n ∧ prN n ≤ 11 := by
  unfold prN
  split <;> (try split) <;> (try split) <;> omega
/-- where a row points at, by its clock -/
def jsN (n st j c : Nat) : Nat := if c % (3 * prN n) < 2 * prN n then (st + c / (3 * prN n) + c % (3 * prN n) * (1 + (j - 1 + c / (3 * prN n) / prN n) % n)) % prN n % n else (1 + (j - 1 + c / (3 * prN n) / prN n) % n) % n
def ptsN (n ro st sp c : Nat) : Nat := if ro = 0 then jsN n st (1 + sp % n) c else if ro = 1 then (st + c) % n else if ro = 2 then st % n else (st + c * (1 + sp % n)) % prN n % n
def aimN (z : Nat → Int32) (u c : Nat) : Nat := ptsN (cn z) (uR z u) (uS z u) (uT z u) c
theorem ptsN_lt {n ro st sp c : Nat} (h : 2 ≤ n) : ptsN n ro st sp c < n := by
  unfold ptsN jsN
  split
  · split <;> exact Nat.mod_lt _ (by omega)
  · split
    · exact Nat.mod_lt _ (by omega)
    · split <;> exact Nat.mod_lt _ (by omega)
/-- bits -/
def bt0 (s k : Nat) : Nat := s / 2 ^ k % 2
def btB (s k : Nat) : Bool := decide (bt0 s k = 1)
theorem bt0_lt (s k : Nat) : bt0 s k < 2 := Nat.mod_lt _ (by decide)
def onesF (s : Nat) : Nat → Nat
  | 0 => 0
  | k + 1 => onesF s k + bt0 s k
def onesN (s : Nat) : Nat := onesF s 10
def mwN (s : Nat) : Nat → Nat → Nat → Nat
  | 0, _, _ => 10
  | f + 1, k, left => if bt0 s k = 1 then (if left = 0 then k else mwN s f (k + 1) (left - 1)) else mwN s f (k + 1) left
def landN (s to : Nat) : Nat := if bt0 s to = 1 then to else mwN s 10 0 (to % onesN s)
def plN (z : Nat → Int32) (u c : Nat) : Int32 := if uO z u = 0 then -1 else nI (landN (uO z u) (aimN z u c))
theorem i_shr {s k : Nat} (hs : s < 2 ^ 31) (hk : k < 31) : nI s >>> (nI k &&& 31) = nI (s / 2 ^ k) := by
  have h : nI k &&& 31 = nI k := by
    have h1 := pk_andN (n := k) (by omega) (m := 31) 5 (by decide)
    rw [h1, Nat.mod_eq_of_lt (by omega)]
  rw [h]
  exact pk_shrN hs (nI k) k (by
    show ((BitVec.ofNat 32 k).smod 32).toNat = k
    have : ∀ k, k < 31 → ((BitVec.ofNat 32 k).smod 32).toNat = k := by decide +kernel
    exact this k hk)
theorem i_and1 (n : Nat) : n &&& 1 = n % 2 := Nat.and_one_is_mod n
theorem ones_pos : ∀ s, s < 1024 → 0 < s → 0 < onesN s := by decide +kernel
theorem ones_le : ∀ s, s < 1024 → onesN s ≤ 10 := by decide +kernel
theorem mw_lt : ∀ s, s < 1024 → ∀ q, q < onesN s → mwN s 10 0 q < 10 := by decide +kernel
theorem land_lt {s to : Nat} (hs : s < 1024) (h0 : 0 < s) (ht : to < 10) : landN s to < 10 := by
  unfold landN
  split
  · exact ht
  · exact mw_lt s hs _ (Nat.mod_lt _ (ones_pos s hs h0))
theorem mw_bit (s : Nat) : ∀ f k q, mwN s f k q < 10 → bt0 s (mwN s f k q) = 1
  | 0, k, q, h => by simp [mwN] at h
  | f + 1, k, q, h => by
    unfold mwN at h ⊢
    split
    next h1 =>
      rw [if_pos h1] at h
      split
      next h2 => exact h1
      next h2 =>
        rw [if_neg h2] at h
        exact mw_bit s f _ _ h
    next h1 =>
      rw [if_neg h1] at h
      exact mw_bit s f _ _ h
theorem land_bit {s to : Nat} (hs : s < 1024) (h0 : 0 < s) : bt0 s (landN s to) = 1 := by
  unfold landN
  split
  next h => exact h
  next h => exact mw_bit s _ _ _ (mw_lt s hs _ (Nat.mod_lt _ (ones_pos s hs h0)))
theorem bt_lt : ∀ n, n < 11 → ∀ s, s < 2 ^ n → ∀ k, k < 10 → bt0 s k = 1 → k < n := by decide +kernel
/-- shut -/
def shO (z : Nat → Int32) (u : Nat) (ch : Int32) (t j : Nat) : Bool := decide (z (28 + 4 * j + 1) = ch ∧ (sU z j = -1 ∨ sU z j = nI u) ∧ sL z j ≤ t ∧ t < sL z j + sM z j)
def shB (z : Nat → Int32) (u : Nat) (ch : Int32) (t : Nat) : Nat → Bool
  | 0 => false
  | j + 1 => shB z u ch t j || shO z u ch t j
theorem shB_mono {z : Nat → Int32} {u : Nat} {ch : Int32} {t : Nat} {j : Nat} (h : shB z u ch t j = true) : ∀ {k : Nat}, j ≤ k → shB z u ch t k = true := by
  intro k
  induction k with
  | zero => intro hk; rw [Nat.le_zero.mp hk] at h; exact h
  | succ k ih =>
    intro hk
    by_cases e : j = k + 1
    · rw [← e]; exact h
    · rw [shB, ih (by omega)]; rfl
def plC (z : Nat → Int32) (u t : Nat) : Int32 := if t < uW z u then -1 else if uO z u = 0 then -1 else if shB z u (plN z u (t - uW z u)) t (cs z) = true then -1 else plN z u (t - uW z u)
def whC (z : Nat → Int32) (u t : Nat) : Int32 := if t < uW z u then 1 else if uO z u = 0 then 2 else if shB z u (plN z u (t - uW z u)) t (cs z) = true then 3 else 0
def meB (z : Nat → Int32) (u v t : Nat) : Bool := decide (plC z u t ≠ -1 ∧ plC z u t = plC z v t)
theorem nI_m1 {n : Nat} (h : n < 2 ^ 31) : nI n ≠ -1 := by
  intro e
  have h1 := nI_pos h
  rw [e] at h1
  exact h1 (by decide)
theorem plN_0 {z : Nat → Int32} {u c : Nat} (h : uO z u = 0) : plN z u c = -1 := if_pos h
theorem plN_1 {z : Nat → Int32} {u c : Nat} (h : ¬ uO z u = 0) : plN z u c = nI (landN (uO z u) (aimN z u c)) := if_neg h
theorem WF.aim {z : Nat → Int32} (h : WF z) (u c : Nat) : aimN z u c < cn z := ptsN_lt h.n.1
theorem WF.land {z : Nat → Int32} (h : WF z) {u : Nat} (hu : u < cu z) (h0 : ¬ uO z u = 0) (c : Nat) : landN (uO z u) (aimN z u c) < cn z := by
  have h1 := h.o hu
  have h2 := h.aim u c
  have h3 := h.n
  have h4 : landN (uO z u) (aimN z u c) < 10 := land_lt h1 (by omega) (by omega)
  exact bt_lt (cn z) (by omega) _ (h.us hu).2.2.2.2.2 _ h4 (land_bit h1 (by omega))
theorem WF.pl {z : Nat → Int32} (h : WF z) {u : Nat} (hu : u < cu z) (c : Nat) : plN z u c = -1 ∨ ∃ k, k < cn z ∧ plN z u c = nI k := by
  by_cases h0 : uO z u = 0
  · exact Or.inl (plN_0 h0)
  · exact Or.inr ⟨_, h.land hu h0 c, plN_1 h0⟩
theorem plN_m1 {z : Nat → Int32} (h : WF z) {u : Nat} (hu : u < cu z) {c : Nat} : plN z u c = -1 ↔ uO z u = 0 := by
  constructor
  · intro e
    apply Decidable.byContradiction
    intro h0
    rw [plN_1 h0] at e
    have := h.land hu h0 c
    have := h.n
    exact nI_m1 (by omega) e
  · exact plN_0
/-- rows of arrays that lie one behind another -/
def rowsF (n b : Nat) : Nat → Option Nat := fun i => if i < n then some (b + i) else none
def rowsG (n b : Nat) : Nat → Option Nat := fun i => if i < n then some (b + 16 * i) else none
theorem rowsF_at {n b i : Nat} (h : i < n) : rowsF n b i = some (b + i) := if_pos h
theorem rowsG_at {n b i : Nat} (h : i < n) : rowsG n b i = some (b + 16 * i) := if_pos h
/-- the picture of a scene: an object and 15 rows behind it -/
def Sc (G : va_G) (t : gT) (o : Nat) (z : Nat → Int32) (H : Heap) : Prop := ∃ (fU fS : Nat → Nat → Int32),
  at_ G o (.inr (2, [.int (nI (cn z)), .int (nI (prN (cn z))), .int (nI (cu z)), .int (nI (cs z)), .ref (o + 1), .ref (o + 7)])) H ∧
  at_ G (o + 1) (aR t 5 (rowsF 5 (o + 2))) H ∧ (∀ i, i < 5 → at_ G (o + 2 + i) (aI t 5 (fU i)) H) ∧
  at_ G (o + 7) (aR t 8 (rowsF 8 (o + 8))) H ∧ (∀ i, i < 8 → at_ G (o + 8 + i) (aI t 4 (fS i)) H) ∧
  (∀ i, i < cu z → ∀ w, w < 5 → fU i w = z (3 + 5 * i + w)) ∧ ∀ i, i < cs z → ∀ w, w < 4 → fS i w = z (28 + 4 * i + w)
theorem Sc_kept {G : va_G} {t : gT} {o : Nat} {z : Nat → Int32} {H H1 : Heap} (h : Sc G t o z H) (hk : ∀ q, o ≤ q → q < o + 16 → H1[q]? = H[q]?) : Sc G t o z H1 := by
  obtain ⟨fU, fS, h0, h1, h2, h3, h4, h5, h6⟩ := h
  exact ⟨fU, fS, at_kept h0 (hk _ (by omega) (by omega)), at_kept h1 (hk _ (by omega) (by omega)), fun i hi => at_kept (h2 i hi) (hk _ (by omega) (by omega)), at_kept h3 (hk _ (by omega) (by omega)), fun i hi => at_kept (h4 i hi) (hk _ (by omega) (by omega)), h5, h6⟩
theorem Sc_lt {G : va_G} {t : gT} {o : Nat} {z : Nat → Int32} {H : Heap} (h : Sc G t o z H) : o + 16 ≤ H.size := by
  obtain ⟨fU, fS, h0, h1, h2, h3, h4, h5, h6⟩ := h
  have := va_at.lt (h4 7 (by decide))
  have e : o + 8 + 7 < H.size := this
  omega
theorem Sc_keptA {G : va_G} {t : gT} {o : Nat} {z : Nat → Int32} {H H1 : Heap} {A : Nat → Prop} (h : Sc G t o z H) (hk : ∀ q : Nat, q < H.size → ¬ A q → H1[q]? = H[q]?) (ha : ∀ q, o ≤ q → q < o + 16 → ¬ A q) : Sc G t o z H1 := by
  have hz := Sc_lt h
  exact Sc_kept h (fun q h1 h2 => hk q (by omega) (ha q h1 h2))
theorem Sc_obj {G : va_G} {t : gT} {o : Nat} {z : Nat → Int32} {H : Heap} (h : Sc G t o z H) : at_ G o (.inr (2, [.int (nI (cn z)), .int (nI (prN (cn z))), .int (nI (cu z)), .int (nI (cs z)), .ref (o + 1), .ref (o + 7)])) H := by
  obtain ⟨fU, fS, h0, -⟩ := h
  exact h0
theorem Sc_rows {G : va_G} {t : gT} {o : Nat} {z : Nat → Int32} {H : Heap} (h : Sc G t o z H) : at_ G (o + 1) (aR t 5 (rowsF 5 (o + 2))) H ∧ at_ G (o + 7) (aR t 8 (rowsF 8 (o + 8))) H := by
  obtain ⟨fU, fS, h0, h1, h2, h3, h4, h5, h6⟩ := h
  exact ⟨h1, h3⟩
theorem Sc_user {G : va_G} {t : gT} {o : Nat} {z : Nat → Int32} {H : Heap} (h : Sc G t o z H) (hz : WF z) {u : Nat} (hu : u < cu z) : ∃ f, at_ G (o + 2 + u) (aI t 5 f) H ∧ f 0 = nI (uR z u) ∧ f 1 = nI (uS z u) ∧ f 2 = nI (uT z u) ∧ f 3 = nI (uW z u) ∧ f 4 = nI (uO z u) := by
  obtain ⟨fU, fS, h0, h1, h2, h3, h4, h5, h6⟩ := h
  have h7 := hz.us hu
  have h8 := hz.u5
  exact ⟨fU u, h2 u (by omega), (h5 u hu 0 (by decide)).trans h7.1.1, (h5 u hu 1 (by decide)).trans h7.2.1.1, (h5 u hu 2 (by decide)).trans h7.2.2.1.1, (h5 u hu 3 (by decide)).trans h7.2.2.2.1.1, (h5 u hu 4 (by decide)).trans h7.2.2.2.2.1⟩
theorem Sc_spell {G : va_G} {t : gT} {o : Nat} {z : Nat → Int32} {H : Heap} (h : Sc G t o z H) (hz : WF z) {j : Nat} (hj : j < cs z) : ∃ f, at_ G (o + 8 + j) (aI t 4 f) H ∧ f 0 = sU z j ∧ f 1 = nI (sC z j) ∧ f 2 = nI (sL z j) ∧ f 3 = nI (sM z j) := by
  obtain ⟨fU, fS, h0, h1, h2, h3, h4, h5, h6⟩ := h
  have h7 := hz.sp hj
  have h8 := hz.s8
  exact ⟨fS j, h4 j (by omega), h6 j hj 0 (by decide), (h6 j hj 1 (by decide)).trans h7.2.1.1, (h6 j hj 2 (by decide)).trans h7.2.2.1.1, (h6 j hj 3 (by decide)).trans h7.2.2.2.1⟩
/-! small rows that the walks use -/
theorem i_neg_ge {x : Int32} (h : x < 0) (h2 : 0 ≤ x) : False := by
  rw [Int32.lt_iff_toInt_lt] at h
  rw [Int32.le_iff_toInt_le] at h2
  omega
def bcI (x : Int32) : Int32 :=
  let b1 := x - ((x.toUInt32 >>> ((nI 1).toUInt32 &&& Int32.toUInt32 31)).toInt32 &&& nI 1431655765)
  let b2 := (b1 &&& nI 858993459) + ((b1.toUInt32 >>> ((nI 2).toUInt32 &&& Int32.toUInt32 31)).toInt32 &&& nI 858993459)
  let b3 := (b2 + (b2.toUInt32 >>> ((nI 4).toUInt32 &&& Int32.toUInt32 31)).toInt32) &&& nI 252645135
  let b4 := b3 + (b3.toUInt32 >>> ((nI 8).toUInt32 &&& Int32.toUInt32 31)).toInt32
  let b5 := b4 + (b4.toUInt32 >>> ((nI 16).toUInt32 &&& Int32.toUInt32 31)).toInt32
  b5 &&& nI 63
theorem bc_rows : ∀ x, x < 1024 → bcI (nI x) = nI (onesN x) := by decide +kernel
theorem mw_a (x k w : Nat) (hk : k < 10) (h : btB x k = true) (h0 : ¬ w = 0) : mwN x (10 - k) k w = mwN x (10 - (k + 1)) (k + 1) (w - 1) := by
  rw [show 10 - k = (10 - (k + 1)) + 1 by omega, mwN, if_pos (of_decide_eq_true h), if_neg h0]
theorem mw_b (x k w : Nat) (hk : k < 10) (h : btB x k = false) : mwN x (10 - k) k w = mwN x (10 - (k + 1)) (k + 1) w := by
  rw [show 10 - k = (10 - (k + 1)) + 1 by omega, mwN, if_neg (of_decide_eq_false h)]
theorem mw_c (x k w : Nat) (hk : k < 10) (h : btB x k = true) (h0 : w = 0) : mwN x (10 - k) k w = k := by
  rw [show 10 - k = (10 - (k + 1)) + 1 by omega, mwN, if_pos (of_decide_eq_true h), if_pos h0]
theorem nI_dec {w : Nat} (h : 0 < w) : nI w + Int32.ofInt (-1) = nI (w - 1) := by
  obtain ⟨v, rfl⟩ : ∃ v, w = v + 1 := ⟨w - 1, by omega⟩
  exact pk_m1 v
def prB (n : Nat) : Bool := decide (∀ d, d < n → 2 ≤ d → n % d ≠ 0)
def prP (n k : Nat) : Bool := decide (n < k) && (decide (∀ d, d < k → n < d → prB d = false) && ((decide (2 * n ≤ k) || prB k) && (decide (2 ≤ n) && decide (k ≤ 2 * n))))
theorem prP_rows : ∀ n, n < 11 → ∀ k, k < 21 → prP n k = true → k = prN n := by decide +kernel
theorem pr_least (n : Nat) (hn : n < 11) (k : Nat) (hk : k < 21) (h1 : n < k) (h2 : ∀ d, d < k → n < d → prB d = false) (h3 : k < 2 * n → prB k = true) (h4 : 2 ≤ n) (h5 : k ≤ 2 * n) : k = prN n := by
  refine prP_rows n hn k hk ?_
  unfold prP
  rw [decide_eq_true h1, decide_eq_true h2, decide_eq_true h4, decide_eq_true h5]
  by_cases h : k < 2 * n
  · rw [h3 h, Bool.or_true]; rfl
  · rw [decide_eq_true (Nat.not_lt.mp h)]; rfl
theorem i_shl1 : ∀ {n : Nat}, n ≤ 10 → nI 1 <<< (nI n &&& 31) = nI (2 ^ n) := by
  intro n h
  have : ∀ n, n < 11 → nI 1 <<< (nI n &&& 31) = nI (2 ^ n) := by decide +kernel
  exact this n (by omega)
theorem shB_no {z : Nat → Int32} {u : Nat} {ch : Int32} {t j : Nat} (h : shB z u ch t j = false) (h2 : shO z u ch t j = false) : shB z u ch t (j + 1) = false := by rw [shB, h, h2]; rfl
theorem shB_yes {z : Nat → Int32} {u : Nat} {ch : Int32} {t j : Nat} (h2 : shO z u ch t j = true) : shB z u ch t (j + 1) = true := by rw [shB, h2, Bool.or_true]
theorem sh_no {z : Nat → Int32} {n u : Nat} {ch : Int32} {t j : Nat} (hsf : SF z n j) (h : ¬ (nI (sC z j) = ch ∧ (sU z j = -1 ∨ sU z j = nI u) ∧ sL z j ≤ t ∧ t < sL z j + sM z j)) : shO z u ch t j = false := by
  rw [← hsf.2.1.1] at h
  exact decide_eq_false h
theorem sh_yes {z : Nat → Int32} {n u : Nat} {ch : Int32} {t j : Nat} (hsf : SF z n j) (h : nI (sC z j) = ch ∧ (sU z j = -1 ∨ sU z j = nI u) ∧ sL z j ≤ t ∧ t < sL z j + sM z j) : shO z u ch t j = true := by
  rw [← hsf.2.1.1] at h
  exact decide_eq_true h
theorem plC_w {z : Nat → Int32} {u t : Nat} (h : t < uW z u) : plC z u t = -1 := if_pos h
theorem plC_1 {z : Nat → Int32} {u t : Nat} (h : uW z u ≤ t) (h2 : shB z u (plN z u (t - uW z u)) t (cs z) = true) : plC z u t = -1 := by
  unfold plC
  rw [if_neg (Nat.not_lt.mpr h)]
  split
  · rfl
  · first | rfl | rw [if_pos h2]
theorem plC_2 {z : Nat → Int32} {u t : Nat} (h : uW z u ≤ t) (h2 : shB z u (plN z u (t - uW z u)) t (cs z) = false) : plC z u t = plN z u (t - uW z u) := by
  unfold plC
  rw [if_neg (Nat.not_lt.mpr h)]
  split
  next h0 => exact (plN_0 h0).symm
  next h0 => rw [if_neg (by rw [h2]; decide)]
theorem whC_w {z : Nat → Int32} {u t : Nat} (h : t < uW z u) : whC z u t = 1 := if_pos h
theorem whC_0 {z : Nat → Int32} {u t : Nat} (h : uW z u ≤ t) (h0 : uO z u = 0) : whC z u t = 2 := by
  unfold whC
  rw [if_neg (Nat.not_lt.mpr h), if_pos h0]
theorem whC_1 {z : Nat → Int32} {u t : Nat} (h : uW z u ≤ t) (h0 : ¬ uO z u = 0) (h2 : shB z u (plN z u (t - uW z u)) t (cs z) = true) : whC z u t = 3 := by
  unfold whC
  rw [if_neg (Nat.not_lt.mpr h), if_neg h0, if_pos h2]
theorem whC_2 {z : Nat → Int32} {u t : Nat} (h : uW z u ≤ t) (h0 : ¬ uO z u = 0) (h2 : shB z u (plN z u (t - uW z u)) t (cs z) = false) : whC z u t = 0 := by
  unfold whC
  rw [if_neg (Nat.not_lt.mpr h), if_neg h0, if_neg (by rw [h2]; decide)]
/-- the channels that are open to the first j users -/
def comN (z : Nat → Int32) : Nat → Nat
  | 0 => 2 ^ cn z - 1
  | j + 1 => comN z j &&& uO z j
end
section
/-! Scene: what reads alone (printed by wip/whole/m1.py) -/
set_option maxHeartbeats 4000000 in
set_option maxRecDepth 100000 in
/-- whether bit k of x is set -/
theorem c_X2_holds (l : Launch) (G : va_G) (t : gT) (x k : Nat) (hs : x < 2 ^ 31) (hk : k < 31) : Met l yX2_holds wsX2_holds ({ frames := 0, cells := 0, slots := 0, locals := 0 } : Room) (pc_ [.int (nI x), .int (nI k)] (fun _ _ => True)) (vp_Si (fun r => r = bI (btB x k))) 0 0 (fun _ => False) := by
  refine Met.ofW (cc := cX2_holds) (maxL := 2) (ret := (some .boolean)) (by decide) rfl ?_
  intro p e s m args below meth c s₁ B hml hv
  obtain ⟨rfl, hB⟩ := hv
  have hx := B.exec
  have hb := B.bytes
  have hr := B.returns
  have hts := atoms_spec (ws := wsX2_holds) B.pre
  have hown : s.vm.findClass RX2 = some m.cls := findClass_of_methodNamed B.named
  have hlocks := B.notSynchronized
  have hl := lv_entry ([.int (nI x), .int (nI k)]) (n := 2) (Nat.le_of_ble_eq_true rfl)
  rw [lg_entry_eq]
  generalize (lg_sl ([.int (nI x), .int (nI k)]) ++ List.replicate (2 - (lg_sl ([.int (nI x), .int (nI k)])).length) Slot.unset).toArray = ls at hl ⊢
  have hl : lv_has ls 2 [(0, .int (nI x)), (1, .int (nI k))] := hl
  refine lv_iload_n hx hb dX2_holds_0 rfl (lv_at hl 0 rfl) ?_
  refine lv_iload_n hx hb dX2_holds_1 rfl (lv_at hl 1 rfl) ?_
  refine lv_ishr hx hb dX2_holds_2 ?_
  refine r_top (y := nI (x / 2 ^ k)) (i_shr hs hk) ?_
  refine lv_iconst (v := nI 1) hx hb dX2_holds_3 (by decide) ?_
  refine r_iandN hx hb dX2_holds_4 ?_
  refine r_top (y := nI (bt0 x k)) (congrArg nI (i_and1 _)) ?_
  refine lv_iconst (v := nI 1) hx hb dX2_holds_5 (by decide) ?_
  refine r_neN hx hb (Nat.lt_trans (bt0_lt x k) (by decide)) (by decide) dX2_holds_6 (tgt := 13) (by decide) (fun c1 => ?_) (fun c1 => ?_)
  · refine lv_iconst (v := nI 0) hx hb dX2_holds_13 (by decide) ?_
    exact r_retZ (v := nI 0) hx hb hr hlocks false rfl (by rw [show btB x k = false from decide_eq_false c1]; rfl) dX2_holds_14
  · refine lv_iconst (v := nI 1) hx hb dX2_holds_9 (by decide) ?_
    refine lv_goto (tgt := 14) hx hb dX2_holds_10 (by decide) ?_
    exact r_retZ (v := nI 1) hx hb hr hlocks true rfl (by rw [show btB x k = true from decide_eq_true c1]; rfl) dX2_holds_14

set_option maxHeartbeats 4000000 in
set_option maxRecDepth 100000 in
/-- how many bits are set -/
theorem c_J6_bitCount_0f7a4 (l : Launch) (G : va_G) (t : gT) (x : Nat) (hx0 : x < 1024) : Met l yJ6_bitCount_0f7a4 wsJ6_bitCount_0f7a4 ({ frames := 0, cells := 0, slots := 0, locals := 0 } : Room) (pc_ [.int (nI x)] (fun _ _ => True)) (vp_Si (fun r => r = nI (onesN x))) 0 0 (fun _ => False) := by
  refine Met.ofW (cc := cJ6_bitCount_0f7a4) (maxL := 1) (ret := (some .int)) (by decide) rfl ?_
  intro p e s m args below meth c s₁ B hml hv
  obtain ⟨rfl, hB⟩ := hv
  have hx := B.exec
  have hb := B.bytes
  have hr := B.returns
  have hts := atoms_spec (ws := wsJ6_bitCount_0f7a4) B.pre
  have hown : s.vm.findClass RJ6 = some m.cls := findClass_of_methodNamed B.named
  have hlocks := B.notSynchronized
  have hl := lv_entry ([.int (nI x)]) (n := 1) (Nat.le_of_ble_eq_true rfl)
  rw [lg_entry_eq]
  generalize (lg_sl ([.int (nI x)]) ++ List.replicate (1 - (lg_sl ([.int (nI x)])).length) Slot.unset).toArray = ls at hl ⊢
  have hl : lv_has ls 1 [(0, .int (nI x))] := hl
  refine lv_iload_n hx hb dJ6_bitCount_0f7a4_0 rfl (lv_at hl 0 rfl) ?_
  refine lv_iload_n hx hb dJ6_bitCount_0f7a4_1 rfl (lv_at hl 0 rfl) ?_
  refine lv_iconst (v := nI 1) hx hb dJ6_bitCount_0f7a4_2 (by decide) ?_
  refine lv_iushr hx hb dJ6_bitCount_0f7a4_3 rfl ?_
  refine lv_ldcw (v := (1431655765)) hx hb hown (hts (.constant RJ6 265 (1431655765)) (List.mem_of_getElem? (i := 1) rfl)) dJ6_bitCount_0f7a4_4 ?_
  refine r_top (y := nI 1431655765) rfl ?_
  refine lv_iand hx hb dJ6_bitCount_0f7a4_7 ?_
  refine lv_isub hx hb dJ6_bitCount_0f7a4_8 ?_
  refine lv_topi (fun b1 eb1 => ?_)
  refine lv_istore_n (lv' := [(0, .int b1)]) hx hb dJ6_bitCount_0f7a4_9 rfl hl (by decide) rfl (fun ls hl => ?_)
  refine lv_iload_n hx hb dJ6_bitCount_0f7a4_10 rfl (lv_at hl 0 rfl) ?_
  refine lv_ldcw (v := (858993459)) hx hb hown (hts (.constant RJ6 266 (858993459)) (List.mem_of_getElem? (i := 2) rfl)) dJ6_bitCount_0f7a4_11 ?_
  refine r_top (y := nI 858993459) rfl ?_
  refine lv_iand hx hb dJ6_bitCount_0f7a4_14 ?_
  refine lv_iload_n hx hb dJ6_bitCount_0f7a4_15 rfl (lv_at hl 0 rfl) ?_
  refine lv_iconst (v := nI 2) hx hb dJ6_bitCount_0f7a4_16 (by decide) ?_
  refine lv_iushr hx hb dJ6_bitCount_0f7a4_17 rfl ?_
  refine lv_ldcw (v := (858993459)) hx hb hown (hts (.constant RJ6 266 (858993459)) (List.mem_of_getElem? (i := 2) rfl)) dJ6_bitCount_0f7a4_18 ?_
  refine r_top (y := nI 858993459) rfl ?_
  refine lv_iand hx hb dJ6_bitCount_0f7a4_21 ?_
  refine lv_iadd hx hb dJ6_bitCount_0f7a4_22 ?_
  refine lv_topi (fun b2 eb2 => ?_)
  refine lv_istore_n (lv' := [(0, .int b2)]) hx hb dJ6_bitCount_0f7a4_23 rfl hl (by decide) rfl (fun ls hl => ?_)
  refine lv_iload_n hx hb dJ6_bitCount_0f7a4_24 rfl (lv_at hl 0 rfl) ?_
  refine lv_iload_n hx hb dJ6_bitCount_0f7a4_25 rfl (lv_at hl 0 rfl) ?_
  refine lv_iconst (v := nI 4) hx hb dJ6_bitCount_0f7a4_26 (by decide) ?_
  refine lv_iushr hx hb dJ6_bitCount_0f7a4_27 rfl ?_
  refine lv_iadd hx hb dJ6_bitCount_0f7a4_28 ?_
  refine lv_ldcw (v := (252645135)) hx hb hown (hts (.constant RJ6 267 (252645135)) (List.mem_of_getElem? (i := 3) rfl)) dJ6_bitCount_0f7a4_29 ?_
  refine r_top (y := nI 252645135) rfl ?_
  refine lv_iand hx hb dJ6_bitCount_0f7a4_32 ?_
  refine lv_topi (fun b3 eb3 => ?_)
  refine lv_istore_n (lv' := [(0, .int b3)]) hx hb dJ6_bitCount_0f7a4_33 rfl hl (by decide) rfl (fun ls hl => ?_)
  refine lv_iload_n hx hb dJ6_bitCount_0f7a4_34 rfl (lv_at hl 0 rfl) ?_
  refine lv_iload_n hx hb dJ6_bitCount_0f7a4_35 rfl (lv_at hl 0 rfl) ?_
  refine lv_bipush (v := nI 8) hx hb dJ6_bitCount_0f7a4_36 (by decide) ?_
  refine lv_iushr hx hb dJ6_bitCount_0f7a4_38 rfl ?_
  refine lv_iadd hx hb dJ6_bitCount_0f7a4_39 ?_
  refine lv_topi (fun b4 eb4 => ?_)
  refine lv_istore_n (lv' := [(0, .int b4)]) hx hb dJ6_bitCount_0f7a4_40 rfl hl (by decide) rfl (fun ls hl => ?_)
  refine lv_iload_n hx hb dJ6_bitCount_0f7a4_41 rfl (lv_at hl 0 rfl) ?_
  refine lv_iload_n hx hb dJ6_bitCount_0f7a4_42 rfl (lv_at hl 0 rfl) ?_
  refine lv_bipush (v := nI 16) hx hb dJ6_bitCount_0f7a4_43 (by decide) ?_
  refine lv_iushr hx hb dJ6_bitCount_0f7a4_45 rfl ?_
  refine lv_iadd hx hb dJ6_bitCount_0f7a4_46 ?_
  refine lv_topi (fun b5 eb5 => ?_)
  refine lv_istore_n (lv' := [(0, .int b5)]) hx hb dJ6_bitCount_0f7a4_47 rfl hl (by decide) rfl (fun ls hl => ?_)
  refine lv_iload_n hx hb dJ6_bitCount_0f7a4_48 rfl (lv_at hl 0 rfl) ?_
  refine lv_bipush (v := nI 63) hx hb dJ6_bitCount_0f7a4_49 (by decide) ?_
  refine lv_iand hx hb dJ6_bitCount_0f7a4_51 ?_
  exact r_retS (v := b5 &&& (nI 63)) hx hb hr hlocks (by subst eb5 eb4 eb3 eb2 eb1; exact bc_rows x hx0) dJ6_bitCount_0f7a4_52

set_option maxHeartbeats 4000000 in
set_option maxRecDepth 100000 in
/-- the bit of x with the number q -/
theorem c_X2_memberWithNumber (l : Launch) (G : va_G) (t : gT) (x q : Nat) (hx0 : x < 1024) (hq : q < onesN x) : Met l yX2_memberWithNumber wsX2_memberWithNumber ({ frames := 1, cells := 0, slots := 0, locals := 21 } : Room) (pc_ [.int (nI x), .int (nI q)] (fun _ _ => True)) (vp_Si (fun r => r = nI (mwN x 10 0 q))) 0 0 (fun _ => False) := by
  refine Met.ofW (cc := cX2_memberWithNumber) (maxL := 4) (ret := (some .int)) (by decide) rfl ?_
  intro p e s m args below meth c s₁ B hml hv
  obtain ⟨rfl, hB⟩ := hv
  have hx := B.exec
  have hb := B.bytes
  have hr := B.returns
  have hts := atoms_spec (ws := wsX2_memberWithNumber) B.pre
  have hown : s.vm.findClass RX2 = some m.cls := findClass_of_methodNamed B.named
  have hlocks := B.notSynchronized
  have ho := ones_le x hx0
  have hl := lv_entry ([.int (nI x), .int (nI q)]) (n := 4) (Nat.le_of_ble_eq_true rfl)
  rw [lg_entry_eq]
  generalize (lg_sl ([.int (nI x), .int (nI q)]) ++ List.replicate (4 - (lg_sl ([.int (nI x), .int (nI q)])).length) Slot.unset).toArray = ls at hl ⊢
  have hl : lv_has ls 4 [(0, .int (nI x)), (1, .int (nI q))] := hl
  refine lv_iload_n hx hb dX2_memberWithNumber_0 rfl (lv_at hl 1 rfl) ?_
  refine lv_istore_n (lv' := [(2, .int (nI q)), (0, .int (nI x)), (1, .int (nI q))]) hx hb dX2_memberWithNumber_1 rfl hl (by decide) rfl (fun ls hl => ?_)
  refine lv_iconst (v := nI 0) hx hb dX2_memberWithNumber_2 (by decide) ?_
  refine lv_istore_n (lv' := [(3, .int (nI 0)), (2, .int (nI q)), (0, .int (nI x)), (1, .int (nI q))]) hx hb dX2_memberWithNumber_3 rfl hl (by decide) rfl (fun ls hl => ?_)
  have loop4 : ∀ (fu : Nat) (k : Nat) (w : Nat) (hk : k ≤ 10) (hw : w ≤ 10) (hm : mwN x (10 - k) k w = mwN x 10 0 q) (hfu : 10 - k < fu) (ls : Array Slot) (hl : lv_has ls 4 [(0, .int (nI x)), (2, .int (nI w)), (3, .int (nI k))]), W p l e (headSpec wsX2_memberWithNumber ({ frames := 1, cells := 0, slots := 0, locals := 21 } : Room)).room s m ([.int (nI x), .int (nI q)] : List Value).toArray below meth c s.heap [] 0 0 (MQ below (vp_Si (fun r => r = nI (mwN x 10 0 q))) ([.int (nI x), .int (nI q)] : List Value).toArray s 0 0 (fun _ => False)) (F0 m 4 ls []) := by
    intro fu
    induction fu with
    | zero => intro k w hk hw hm hfu; exact absurd hfu (Nat.not_lt_zero _)
    | succ fu4 ih4 =>
      intro k w hk hw hm hfu ls hl
      refine lv_iload_n hx hb dX2_memberWithNumber_4 rfl (lv_at hl 2 rfl) ?_
      refine lv_bipush (v := nI 10) hx hb dX2_memberWithNumber_5 (by decide) ?_
      refine r_geN hx hb (by omega) (by omega) dX2_memberWithNumber_7 (tgt := 33) (by decide) (fun c1 => ?_) (fun c1 => ?_)
      · exact absurd (mw_lt x hx0 q hq) (by rw [← hm, show 10 - k = 0 by omega]; simp [mwN])
      · have hk2 : k < 10 := c1
        refine lv_iload_n hx hb dX2_memberWithNumber_10 rfl (lv_at hl 0 rfl) ?_
        refine lv_iload_n hx hb dX2_memberWithNumber_11 rfl (lv_at hl 2 rfl) ?_
        refine r_cS (av := [.int (nI x), .int (nI k)]) (c_X2_holds l G t x k (by omega) (by omega)) ⟨hx, hb, hml, hown, hts⟩ (va_cwS 2 hts gX2_memberWithNumber_X2_holds rfl rfl rfl (by decide +kernel) ⟨Nat.le_of_ble_eq_true rfl, Nat.le_of_ble_eq_true rfl⟩) mv_T trivial rfl hl (Nat.le_of_ble_eq_true rfl) ⟨Nat.le_of_ble_eq_true rfl, Nat.le_of_ble_eq_true rfl⟩ rfl dX2_memberWithNumber_12 (fun r1 hr1 => ?_)
        subst hr1
        refine r_ifeqB hx hb dX2_memberWithNumber_15 (tgt := 27) (by decide) (fun c2 => ?_) (fun c2 => ?_)
        · refine lv_iinc (v := nI (k + 1)) (lv' := [(3, .int (nI (k + 1))), (0, .int (nI x)), (2, .int (nI w))]) hx hb dX2_memberWithNumber_27 hl (k := 2) rfl (nI_1 _) (by decide) rfl (fun ls hl => ?_)
          refine lv_goto (tgt := 4) hx hb dX2_memberWithNumber_30 (by decide) ?_
          exact ih4 (k + 1) w (by omega) (by omega) ((mw_b x k w hk2 c2).symm.trans hm) (by omega) ls (lv_sub hl [1, 2, 0] rfl)
        · refine lv_iload_n hx hb dX2_memberWithNumber_18 rfl (lv_at hl 1 rfl) ?_
          refine r_ifneN hx hb (by omega) dX2_memberWithNumber_19 (tgt := 24) (by decide) (fun c3 => ?_) (fun c3 => ?_)
          · refine lv_iinc (v := nI (w - 1)) (lv' := [(2, .int (nI (w - 1))), (0, .int (nI x)), (3, .int (nI k))]) hx hb dX2_memberWithNumber_24 hl (k := 1) rfl (nI_dec (Nat.pos_of_ne_zero c3)) (by decide) rfl (fun ls hl => ?_)
            refine lv_iinc (v := nI (k + 1)) (lv' := [(3, .int (nI (k + 1))), (2, .int (nI (w - 1))), (0, .int (nI x))]) hx hb dX2_memberWithNumber_27 hl (k := 2) rfl (nI_1 _) (by decide) rfl (fun ls hl => ?_)
            refine lv_goto (tgt := 4) hx hb dX2_memberWithNumber_30 (by decide) ?_
            exact ih4 (k + 1) (w - 1) (by omega) (by omega) ((mw_a x k w hk2 c2 c3).symm.trans hm) (by omega) ls (lv_sub hl [2, 1, 0] rfl)
          · refine lv_iload_n hx hb dX2_memberWithNumber_22 rfl (lv_at hl 2 rfl) ?_
            exact r_retS (v := nI k) hx hb hr hlocks (by rw [← hm]; exact congrArg nI (mw_c x k w hk2 c2 c3).symm) dX2_memberWithNumber_23
  exact loop4 _ 0 q (Nat.zero_le _) (by omega) rfl (Nat.lt_succ_self _) ls (lv_sub hl [2, 1, 0] rfl)

set_option maxHeartbeats 4000000 in
set_option maxRecDepth 100000 in
/-- whether n is a prime -/
theorem c_X2_isPrime (l : Launch) (G : va_G) (t : gT) (n : Nat) (hn : n < 100) : Met l yX2_isPrime wsX2_isPrime ({ frames := 0, cells := 0, slots := 0, locals := 0 } : Room) (pc_ [.int (nI n)] (fun _ _ => True)) (vp_Si (fun r => r = bI (prB n))) 0 0 (fun _ => False) := by
  refine Met.ofW (cc := cX2_isPrime) (maxL := 2) (ret := (some .boolean)) (by decide) rfl ?_
  intro p e s m args below meth c s₁ B hml hv
  obtain ⟨rfl, hB⟩ := hv
  have hx := B.exec
  have hb := B.bytes
  have hr := B.returns
  have hts := atoms_spec (ws := wsX2_isPrime) B.pre
  have hown : s.vm.findClass RX2 = some m.cls := findClass_of_methodNamed B.named
  have hlocks := B.notSynchronized
  have hl := lv_entry ([.int (nI n)]) (n := 2) (Nat.le_of_ble_eq_true rfl)
  rw [lg_entry_eq]
  generalize (lg_sl ([.int (nI n)]) ++ List.replicate (2 - (lg_sl ([.int (nI n)])).length) Slot.unset).toArray = ls at hl ⊢
  have hl : lv_has ls 2 [(0, .int (nI n))] := hl
  refine lv_iconst (v := nI 2) hx hb dX2_isPrime_0 (by decide) ?_
  refine lv_istore_n (lv' := [(1, .int (nI 2)), (0, .int (nI n))]) hx hb dX2_isPrime_1 rfl hl (by decide) rfl (fun ls hl => ?_)
  have loop2 : ∀ (fu : Nat) (k : Nat) (hk : 2 ≤ k) (hk3 : k ≤ 100) (hd : ∀ d, d < k → 2 ≤ d → n % d ≠ 0) (hfu : 100 - k < fu) (ls : Array Slot) (hl : lv_has ls 2 [(0, .int (nI n)), (1, .int (nI k))]), W p l e (headSpec wsX2_isPrime ({ frames := 0, cells := 0, slots := 0, locals := 0 } : Room)).room s m ([.int (nI n)] : List Value).toArray below meth c s.heap [] 0 0 (MQ below (vp_Si (fun r => r = bI (prB n))) ([.int (nI n)] : List Value).toArray s 0 0 (fun _ => False)) (F0 m 2 ls []) := by
    intro fu
    induction fu with
    | zero => intro k hk hk3 hd hfu; exact absurd hfu (Nat.not_lt_zero _)
    | succ fu2 ih2 =>
      intro k hk hk3 hd hfu ls hl
      refine lv_iload_n hx hb dX2_isPrime_2 rfl (lv_at hl 1 rfl) ?_
      refine lv_iload_n hx hb dX2_isPrime_3 rfl (lv_at hl 0 rfl) ?_
      refine r_geN hx hb (by omega) (by omega) dX2_isPrime_4 (tgt := 21) (by decide) (fun c1 => ?_) (fun c1 => ?_)
      · refine lv_iconst (v := nI 1) hx hb dX2_isPrime_21 (by decide) ?_
        exact r_retZ (v := nI 1) hx hb hr hlocks true rfl (by rw [show prB n = true from decide_eq_true (fun d h1 h2 => hd d (by omega) h2)]; rfl) dX2_isPrime_22
      · refine lv_iload_n hx hb dX2_isPrime_7 rfl (lv_at hl 0 rfl) ?_
        refine lv_iload_n hx hb dX2_isPrime_8 rfl (lv_at hl 1 rfl) ?_
        refine r_iremN hx hb (by omega) (by omega) (by omega) dX2_isPrime_9 ?_
        refine r_ifneN hx hb (Nat.lt_of_le_of_lt (Nat.mod_le _ _) (by omega)) dX2_isPrime_10 (tgt := 15) (by decide) (fun c2 => ?_) (fun c2 => ?_)
        · refine lv_iinc (v := nI (k + 1)) (lv' := [(1, .int (nI (k + 1))), (0, .int (nI n))]) hx hb dX2_isPrime_15 hl (k := 1) rfl (nI_1 _) (by decide) rfl (fun ls hl => ?_)
          refine lv_goto (tgt := 2) hx hb dX2_isPrime_18 (by decide) ?_
          exact ih2 (k + 1) (by omega) (by omega) (fun d h1 h2 => by rcases Nat.lt_succ_iff_lt_or_eq.mp h1 with h | h; exact hd d h h2; rw [h]; exact c2) (by omega) ls (lv_sub hl [1, 0] rfl)
        · refine lv_iconst (v := nI 0) hx hb dX2_isPrime_13 (by decide) ?_
          exact r_retZ (v := nI 0) hx hb hr hlocks false rfl (by rw [show prB n = false from decide_eq_false (fun h => h k c1 hk c2)]; rfl) dX2_isPrime_14
  exact loop2 _ 2 (Nat.le_refl _) (by decide) (fun d h1 h2 => absurd h1 (by omega)) (Nat.lt_succ_self _) ls (lv_sub hl [1, 0] rfl)

set_option maxHeartbeats 4000000 in
set_option maxRecDepth 100000 in
/-- the least prime above n -/
theorem c_X2_primeAbove (l : Launch) (G : va_G) (t : gT) (n : Nat) (h2 : 2 ≤ n) (h10 : n ≤ 10) : Met l yX2_primeAbove wsX2_primeAbove ({ frames := 1, cells := 0, slots := 0, locals := 21 } : Room) (pc_ [.int (nI n)] (fun _ _ => True)) (vp_Si (fun r => r = nI (prN n))) 0 0 (fun _ => False) := by
  refine Met.ofW (cc := cX2_primeAbove) (maxL := 2) (ret := (some .int)) (by decide) rfl ?_
  intro p e s m args below meth c s₁ B hml hv
  obtain ⟨rfl, hB⟩ := hv
  have hx := B.exec
  have hb := B.bytes
  have hr := B.returns
  have hts := atoms_spec (ws := wsX2_primeAbove) B.pre
  have hown : s.vm.findClass RX2 = some m.cls := findClass_of_methodNamed B.named
  have hlocks := B.notSynchronized
  have hl := lv_entry ([.int (nI n)]) (n := 2) (Nat.le_of_ble_eq_true rfl)
  rw [lg_entry_eq]
  generalize (lg_sl ([.int (nI n)]) ++ List.replicate (2 - (lg_sl ([.int (nI n)])).length) Slot.unset).toArray = ls at hl ⊢
  have hl : lv_has ls 2 [(0, .int (nI n))] := hl
  refine lv_iload_n hx hb dX2_primeAbove_0 rfl (lv_at hl 0 rfl) ?_
  refine lv_iconst (v := nI 1) hx hb dX2_primeAbove_1 (by decide) ?_
  refine r_iaddN hx hb dX2_primeAbove_2 ?_
  refine lv_istore_n (lv' := [(1, .int (nI (n + 1))), (0, .int (nI n))]) hx hb dX2_primeAbove_3 rfl hl (by decide) rfl (fun ls hl => ?_)
  have loop4 : ∀ (fu : Nat) (k : Nat) (hk : n < k) (hk2 : k ≤ 2 * n) (hd : ∀ d, d < k → n < d → prB d = false) (hfu : 2 * n - k < fu) (ls : Array Slot) (hl : lv_has ls 2 [(0, .int (nI n)), (1, .int (nI k))]), W p l e (headSpec wsX2_primeAbove ({ frames := 1, cells := 0, slots := 0, locals := 21 } : Room)).room s m ([.int (nI n)] : List Value).toArray below meth c s.heap [] 0 0 (MQ below (vp_Si (fun r => r = nI (prN n))) ([.int (nI n)] : List Value).toArray s 0 0 (fun _ => False)) (F0 m 4 ls []) := by
    intro fu
    induction fu with
    | zero => intro k hk hk2 hd hfu; exact absurd hfu (Nat.not_lt_zero _)
    | succ fu4 ih4 =>
      intro k hk hk2 hd hfu ls hl
      refine lv_iload_n hx hb dX2_primeAbove_4 rfl (lv_at hl 1 rfl) ?_
      refine lv_iconst (v := nI 2) hx hb dX2_primeAbove_5 (by decide) ?_
      refine lv_iload_n hx hb dX2_primeAbove_6 rfl (lv_at hl 0 rfl) ?_
      refine r_imulN hx hb dX2_primeAbove_7 ?_
      refine r_geN hx hb (by omega) (by omega) dX2_primeAbove_8 (tgt := 24) (by decide) (fun c1 => ?_) (fun c1 => ?_)
      · refine lv_iload_n hx hb dX2_primeAbove_24 rfl (lv_at hl 1 rfl) ?_
        exact r_retS (v := nI k) hx hb hr hlocks (congrArg nI (pr_least n (by omega) k (by omega) hk hd (fun h => by first | exact c2 | exact absurd h (by omega)) h2 hk2)) dX2_primeAbove_25
      · refine lv_iload_n hx hb dX2_primeAbove_11 rfl (lv_at hl 1 rfl) ?_
        refine r_cS (av := [.int (nI k)]) (c_X2_isPrime l G t k (by omega)) ⟨hx, hb, hml, hown, hts⟩ (va_cwS 1 hts gX2_primeAbove_X2_isPrime rfl rfl rfl (by decide +kernel) ⟨Nat.le_of_ble_eq_true rfl, Nat.le_of_ble_eq_true rfl⟩) mv_T trivial rfl hl (Nat.le_of_ble_eq_true rfl) ⟨Nat.le_of_ble_eq_true rfl, Nat.le_of_ble_eq_true rfl⟩ rfl dX2_primeAbove_12 (fun r1 hr1 => ?_)
        subst hr1
        refine r_ifneB hx hb dX2_primeAbove_15 (tgt := 24) (by decide) (fun c2 => ?_) (fun c2 => ?_)
        · refine lv_iload_n hx hb dX2_primeAbove_24 rfl (lv_at hl 1 rfl) ?_
          exact r_retS (v := nI k) hx hb hr hlocks (congrArg nI (pr_least n (by omega) k (by omega) hk hd (fun h => by first | exact c2 | exact absurd h (by omega)) h2 hk2)) dX2_primeAbove_25
        · refine lv_iinc (v := nI (k + 1)) (lv' := [(1, .int (nI (k + 1))), (0, .int (nI n))]) hx hb dX2_primeAbove_18 hl (k := 1) rfl (nI_1 _) (by decide) rfl (fun ls hl => ?_)
          refine lv_goto (tgt := 4) hx hb dX2_primeAbove_21 (by decide) ?_
          exact ih4 (k + 1) (by omega) (by omega) (fun d h3 h4 => by rcases Nat.lt_succ_iff_lt_or_eq.mp h3 with h | h; exact hd d h h4; rw [h]; exact c2) (by omega) ls (lv_sub hl [1, 0] rfl)
  exact loop4 _ (n + 1) (Nat.lt_succ_self _) (by omega) (fun d h3 h4 => absurd h3 (by omega)) (Nat.lt_succ_self _) ls (lv_sub hl [1, 0] rfl)

set_option maxRecDepth 20000 in
theorem iiX2_allChannels_2 : ∀ w ∈ wsX20, w ∈ wsX2_allChannels := by decide +kernel
set_option maxHeartbeats 4000000 in
set_option maxRecDepth 100000 in
/-- the set of all channels -/
theorem c_X2_allChannels (l : Launch) (G : va_G) (t : gT) (o : Nat) (z : Nat → Int32) (hz : WF z) : Met l yX2_allChannels wsX2_allChannels ({ frames := 0, cells := 0, slots := 0, locals := 0 } : Room) (pc_ [.ref o] (fun U H => KK G t U ∧ Sc G t o z H)) (vp_Si (fun r => r = nI (2 ^ cn z - 1))) 0 0 (fun _ => False) := by
  refine Met.ofW (cc := cX2_allChannels) (maxL := 1) (ret := (some .int)) (by decide) rfl ?_
  intro p e s m args below meth c s₁ B hml hv
  obtain ⟨rfl, hB⟩ := hv
  have hx := B.exec
  have hb := B.bytes
  have hr := B.returns
  have hts := atoms_spec (ws := wsX2_allChannels) B.pre
  have hown : s.vm.findClass RX2 = some m.cls := findClass_of_methodNamed B.named
  have hlocks := B.notSynchronized
  have hK := hB.1
  have hSc := hB.2
  have h0 := Sc_obj hSc
  have h1 := (Sc_rows hSc).1
  have h3 := (Sc_rows hSc).2
  have hn := hz.n
  have hu5 := hz.u5
  have hs8 := hz.s8
  have hp := prN_in (cn z)
  have hl := lv_entry ([.ref o]) (n := 1) (Nat.le_of_ble_eq_true rfl)
  rw [lg_entry_eq]
  generalize (lg_sl ([.ref o]) ++ List.replicate (1 - (lg_sl ([.ref o])).length) Slot.unset).toArray = ls at hl ⊢
  have hl : lv_has ls 1 [(0, .ref o)] := hl
  refine lv_iconst (v := nI 1) hx hb dX2_allChannels_0 (by decide) ?_
  refine lv_aload_n hx hb dX2_allChannels_1 rfl (lv_at hl 0 rfl) ?_
  refine r_get (C := RX2) (T := TX2) (N := 6) hx hb hts iiX2_allChannels_2 hown hK h0 rfl 0 (by decide) (hts (.fieldLink RX2 23 "HopMeet$Scene" "channelCount" "I") (List.mem_of_getElem? (i := 1) rfl)) rfl dX2_allChannels_2 ?_
  refine lv_ishl hx hb dX2_allChannels_5 ?_
  refine r_top (y := nI (2 ^ cn z)) (i_shl1 hn.2) ?_
  refine lv_iconst (v := nI 1) hx hb dX2_allChannels_6 (by decide) ?_
  refine r_isubN hx hb (Nat.one_le_two_pow) dX2_allChannels_7 ?_
  exact r_retS (v := nI ((2 ^ cn z) - 1)) hx hb hr hlocks rfl dX2_allChannels_8

set_option maxRecDepth 20000 in
theorem iiX2_clockOf_2 : ∀ w ∈ wsX20, w ∈ wsX2_clockOf := by decide +kernel
set_option maxHeartbeats 4000000 in
set_option maxRecDepth 100000 in
/-- the clock of a user at a slot -/
theorem c_X2_clockOf (l : Launch) (G : va_G) (t : gT) (o : Nat) (z : Nat → Int32) (hz : WF z) (u y : Nat) (hu : u < cu z) : Met l yX2_clockOf wsX2_clockOf ({ frames := 0, cells := 0, slots := 0, locals := 0 } : Room) (pc_ [.ref o, .int (nI u), .int (nI y)] (fun U H => KK G t U ∧ Sc G t o z H)) (vp_Si (fun r => r = nI y - nI (uW z u))) 0 0 (fun _ => False) := by
  refine Met.ofW (cc := cX2_clockOf) (maxL := 3) (ret := (some .int)) (by decide) rfl ?_
  intro p e s m args below meth c s₁ B hml hv
  obtain ⟨rfl, hB⟩ := hv
  have hx := B.exec
  have hb := B.bytes
  have hr := B.returns
  have hts := atoms_spec (ws := wsX2_clockOf) B.pre
  have hown : s.vm.findClass RX2 = some m.cls := findClass_of_methodNamed B.named
  have hlocks := B.notSynchronized
  have hK := hB.1
  have hSc := hB.2
  have h0 := Sc_obj hSc
  have h1 := (Sc_rows hSc).1
  have h3 := (Sc_rows hSc).2
  have hn := hz.n
  have hu5 := hz.u5
  have hs8 := hz.s8
  have hp := prN_in (cn z)
  obtain ⟨fu, hf, e0, e1, e2, e3, e4⟩ := Sc_user hSc hz hu
  have huf := hz.us hu
  have hl := lv_entry ([.ref o, .int (nI u), .int (nI y)]) (n := 3) (Nat.le_of_ble_eq_true rfl)
  rw [lg_entry_eq]
  generalize (lg_sl ([.ref o, .int (nI u), .int (nI y)]) ++ List.replicate (3 - (lg_sl ([.ref o, .int (nI u), .int (nI y)])).length) Slot.unset).toArray = ls at hl ⊢
  have hl : lv_has ls 3 [(0, .ref o), (1, .int (nI u)), (2, .int (nI y))] := hl
  refine lv_iload_n hx hb dX2_clockOf_0 rfl (lv_at hl 2 rfl) ?_
  refine lv_aload_n hx hb dX2_clockOf_1 rfl (lv_at hl 0 rfl) ?_
  refine r_get (C := RX2) (T := TX2) (N := 6) hx hb hts iiX2_clockOf_2 hown hK h0 rfl 4 (by decide) (hts (.fieldLink RX2 11 "HopMeet$Scene" "users" "[[I") (List.mem_of_getElem? (i := 1) rfl)) rfl dX2_clockOf_2 ?_
  refine lv_iload_n hx hb dX2_clockOf_5 rfl (lv_at hl 1 rfl) ?_
  refine r_rald hx hb hK h1 1 rfl rfl u (by omega) (by decide) (b := o + 2 + u) (rowsF_at (by omega)) dX2_clockOf_6 ?_
  refine lv_iconst (v := nI 3) hx hb dX2_clockOf_7 (by decide) ?_
  refine r_iald hx hb hK hf rfl 3 (by omega) (by decide) (v := nI (uW z u)) e3 dX2_clockOf_8 ?_
  refine lv_isub hx hb dX2_clockOf_9 ?_
  exact r_retS (v := (nI y) - (nI (uW z u))) hx hb hr hlocks rfl dX2_clockOf_10

set_option maxRecDepth 20000 in
theorem iiX2_aimOfJumpAndStay_2 : ∀ w ∈ wsX20, w ∈ wsX2_aimOfJumpAndStay := by decide +kernel
set_option maxHeartbeats 4000000 in
set_option maxRecDepth 100000 in
/-- where a row of kind 0 points -/
theorem c_X2_aimOfJumpAndStay (l : Launch) (G : va_G) (t : gT) (o : Nat) (z : Nat → Int32) (hz : WF z) (st j c0 : Nat) (hst : st ≤ 99) (hj : 1 ≤ j) (hj2 : j ≤ 10) (hc : c0 ≤ 5000) : Met l yX2_aimOfJumpAndStay wsX2_aimOfJumpAndStay ({ frames := 0, cells := 0, slots := 0, locals := 0 } : Room) (pc_ [.ref o, .int (nI st), .int (nI j), .int (nI c0)] (fun U H => KK G t U ∧ Sc G t o z H)) (vp_Si (fun r => r = nI (jsN (cn z) st j c0))) 0 0 (fun _ => False) := by
  refine Met.ofW (cc := cX2_aimOfJumpAndStay) (maxL := 7) (ret := (some .int)) (by decide) rfl ?_
  intro p e s m args below meth c s₁ B hml hv
  obtain ⟨rfl, hB⟩ := hv
  have hx := B.exec
  have hb := B.bytes
  have hr := B.returns
  have hts := atoms_spec (ws := wsX2_aimOfJumpAndStay) B.pre
  have hown : s.vm.findClass RX2 = some m.cls := findClass_of_methodNamed B.named
  have hlocks := B.notSynchronized
  have hK := hB.1
  have hSc := hB.2
  have h0 := Sc_obj hSc
  have h1 := (Sc_rows hSc).1
  have h3 := (Sc_rows hSc).2
  have hn := hz.n
  have hu5 := hz.u5
  have hs8 := hz.s8
  have hp := prN_in (cn z)
  have a1 : c0 / (3 * prN (cn z)) ≤ c0 := Nat.div_le_self _ _
  have a2 : c0 % (3 * prN (cn z)) < 3 * prN (cn z) := Nat.mod_lt _ (by omega)
  have a3 : c0 / (3 * prN (cn z)) / prN (cn z) ≤ c0 / (3 * prN (cn z)) := Nat.div_le_self _ _
  have a4 : (j - 1 + c0 / (3 * prN (cn z)) / prN (cn z)) % cn z < cn z := Nat.mod_lt _ (by omega)
  have a5 : c0 % (3 * prN (cn z)) * (1 + (j - 1 + c0 / (3 * prN (cn z)) / prN (cn z)) % cn z) ≤ 33 * 11 := Nat.mul_le_mul (by omega) (by omega)
  have hl := lv_entry ([.ref o, .int (nI st), .int (nI j), .int (nI c0)]) (n := 7) (Nat.le_of_ble_eq_true rfl)
  rw [lg_entry_eq]
  generalize (lg_sl ([.ref o, .int (nI st), .int (nI j), .int (nI c0)]) ++ List.replicate (7 - (lg_sl ([.ref o, .int (nI st), .int (nI j), .int (nI c0)])).length) Slot.unset).toArray = ls at hl ⊢
  have hl : lv_has ls 7 [(0, .ref o), (1, .int (nI st)), (2, .int (nI j)), (3, .int (nI c0))] := hl
  refine lv_iload_n hx hb dX2_aimOfJumpAndStay_0 rfl (lv_at hl 3 rfl) ?_
  refine lv_iconst (v := nI 3) hx hb dX2_aimOfJumpAndStay_1 (by decide) ?_
  refine lv_aload_n hx hb dX2_aimOfJumpAndStay_2 rfl (lv_at hl 0 rfl) ?_
  refine r_get (C := RX2) (T := TX2) (N := 6) hx hb hts iiX2_aimOfJumpAndStay_2 hown hK h0 rfl 1 (by decide) (hts (.fieldLink RX2 31 "HopMeet$Scene" "prime" "I") (List.mem_of_getElem? (i := 1) rfl)) rfl dX2_aimOfJumpAndStay_3 ?_
  refine r_imulN hx hb dX2_aimOfJumpAndStay_6 ?_
  refine r_idivN hx hb (by omega) (by omega) (by omega) dX2_aimOfJumpAndStay_7 ?_
  refine lv_istore (lv' := [(4, .int (nI (c0 / (3 * (prN (cn z)))))), (0, .ref o), (1, .int (nI st)), (2, .int (nI j)), (3, .int (nI c0))]) hx hb dX2_aimOfJumpAndStay_8 hl (by decide) rfl (fun ls hl => ?_)
  refine lv_iload_n hx hb dX2_aimOfJumpAndStay_10 rfl (lv_at hl 4 rfl) ?_
  refine lv_iconst (v := nI 3) hx hb dX2_aimOfJumpAndStay_11 (by decide) ?_
  refine lv_aload_n hx hb dX2_aimOfJumpAndStay_12 rfl (lv_at hl 1 rfl) ?_
  refine r_get (C := RX2) (T := TX2) (N := 6) hx hb hts iiX2_aimOfJumpAndStay_2 hown hK h0 rfl 1 (by decide) (hts (.fieldLink RX2 31 "HopMeet$Scene" "prime" "I") (List.mem_of_getElem? (i := 1) rfl)) rfl dX2_aimOfJumpAndStay_13 ?_
  refine r_imulN hx hb dX2_aimOfJumpAndStay_16 ?_
  refine r_iremN hx hb (by omega) (by omega) (by omega) dX2_aimOfJumpAndStay_17 ?_
  refine lv_istore (lv' := [(5, .int (nI (c0 % (3 * (prN (cn z)))))), (4, .int (nI (c0 / (3 * (prN (cn z)))))), (0, .ref o), (1, .int (nI st)), (2, .int (nI j)), (3, .int (nI c0))]) hx hb dX2_aimOfJumpAndStay_18 hl (by decide) rfl (fun ls hl => ?_)
  refine lv_iconst (v := nI 1) hx hb dX2_aimOfJumpAndStay_20 (by decide) ?_
  refine lv_iload_n hx hb dX2_aimOfJumpAndStay_21 rfl (lv_at hl 4 rfl) ?_
  refine lv_iconst (v := nI 1) hx hb dX2_aimOfJumpAndStay_22 (by decide) ?_
  refine r_isubN hx hb hj dX2_aimOfJumpAndStay_23 ?_
  refine lv_iload hx hb dX2_aimOfJumpAndStay_24 (lv_at hl 1 rfl) ?_
  refine lv_aload_n hx hb dX2_aimOfJumpAndStay_26 rfl (lv_at hl 2 rfl) ?_
  refine r_get (C := RX2) (T := TX2) (N := 6) hx hb hts iiX2_aimOfJumpAndStay_2 hown hK h0 rfl 1 (by decide) (hts (.fieldLink RX2 31 "HopMeet$Scene" "prime" "I") (List.mem_of_getElem? (i := 1) rfl)) rfl dX2_aimOfJumpAndStay_27 ?_
  refine r_idivN hx hb (by omega) (by omega) (by omega) dX2_aimOfJumpAndStay_30 ?_
  refine r_iaddN hx hb dX2_aimOfJumpAndStay_31 ?_
  refine lv_aload_n hx hb dX2_aimOfJumpAndStay_32 rfl (lv_at hl 2 rfl) ?_
  refine r_get (C := RX2) (T := TX2) (N := 6) hx hb hts iiX2_aimOfJumpAndStay_2 hown hK h0 rfl 0 (by decide) (hts (.fieldLink RX2 23 "HopMeet$Scene" "channelCount" "I") (List.mem_of_getElem? (i := 2) rfl)) rfl dX2_aimOfJumpAndStay_33 ?_
  refine r_iremN hx hb (by omega) (by omega) (by omega) dX2_aimOfJumpAndStay_36 ?_
  refine r_iaddN hx hb dX2_aimOfJumpAndStay_37 ?_
  refine lv_istore (lv' := [(6, .int (nI (1 + (((j - 1) + ((c0 / (3 * (prN (cn z)))) / (prN (cn z)))) % (cn z))))), (5, .int (nI (c0 % (3 * (prN (cn z)))))), (4, .int (nI (c0 / (3 * (prN (cn z)))))), (0, .ref o), (1, .int (nI st)), (2, .int (nI j)), (3, .int (nI c0))]) hx hb dX2_aimOfJumpAndStay_38 hl (by decide) rfl (fun ls hl => ?_)
  refine lv_iload hx hb dX2_aimOfJumpAndStay_40 (lv_at hl 1 rfl) ?_
  refine lv_iconst (v := nI 2) hx hb dX2_aimOfJumpAndStay_42 (by decide) ?_
  refine lv_aload_n hx hb dX2_aimOfJumpAndStay_43 rfl (lv_at hl 3 rfl) ?_
  refine r_get (C := RX2) (T := TX2) (N := 6) hx hb hts iiX2_aimOfJumpAndStay_2 hown hK h0 rfl 1 (by decide) (hts (.fieldLink RX2 31 "HopMeet$Scene" "prime" "I") (List.mem_of_getElem? (i := 1) rfl)) rfl dX2_aimOfJumpAndStay_44 ?_
  refine r_imulN hx hb dX2_aimOfJumpAndStay_47 ?_
  refine r_geN hx hb (by omega) (by omega) dX2_aimOfJumpAndStay_48 (tgt := 72) (by decide) (fun c1 => ?_) (fun c1 => ?_)
  · refine lv_iload hx hb dX2_aimOfJumpAndStay_72 (lv_at hl 0 rfl) ?_
    refine lv_aload_n hx hb dX2_aimOfJumpAndStay_74 rfl (lv_at hl 3 rfl) ?_
    refine r_get (C := RX2) (T := TX2) (N := 6) hx hb hts iiX2_aimOfJumpAndStay_2 hown hK h0 rfl 0 (by decide) (hts (.fieldLink RX2 23 "HopMeet$Scene" "channelCount" "I") (List.mem_of_getElem? (i := 2) rfl)) rfl dX2_aimOfJumpAndStay_75 ?_
    refine r_iremN hx hb (by omega) (by omega) (by omega) dX2_aimOfJumpAndStay_78 ?_
    exact r_retS (v := nI ((1 + (((j - 1) + ((c0 / (3 * (prN (cn z)))) / (prN (cn z)))) % (cn z))) % (cn z))) hx hb hr hlocks (congrArg nI (if_neg (Nat.not_lt.mpr c1)).symm) dX2_aimOfJumpAndStay_79
  · refine lv_iload_n hx hb dX2_aimOfJumpAndStay_51 rfl (lv_at hl 4 rfl) ?_
    refine lv_iload hx hb dX2_aimOfJumpAndStay_52 (lv_at hl 2 rfl) ?_
    refine r_iaddN hx hb dX2_aimOfJumpAndStay_54 ?_
    refine lv_iload hx hb dX2_aimOfJumpAndStay_55 (lv_at hl 1 rfl) ?_
    refine lv_iload hx hb dX2_aimOfJumpAndStay_57 (lv_at hl 0 rfl) ?_
    refine r_imulN hx hb dX2_aimOfJumpAndStay_59 ?_
    refine r_iaddN hx hb dX2_aimOfJumpAndStay_60 ?_
    refine lv_aload_n hx hb dX2_aimOfJumpAndStay_61 rfl (lv_at hl 3 rfl) ?_
    refine r_get (C := RX2) (T := TX2) (N := 6) hx hb hts iiX2_aimOfJumpAndStay_2 hown hK h0 rfl 1 (by decide) (hts (.fieldLink RX2 31 "HopMeet$Scene" "prime" "I") (List.mem_of_getElem? (i := 1) rfl)) rfl dX2_aimOfJumpAndStay_62 ?_
    refine r_iremN hx hb (by omega) (by omega) (by omega) dX2_aimOfJumpAndStay_65 ?_
    refine lv_aload_n hx hb dX2_aimOfJumpAndStay_66 rfl (lv_at hl 3 rfl) ?_
    refine r_get (C := RX2) (T := TX2) (N := 6) hx hb hts iiX2_aimOfJumpAndStay_2 hown hK h0 rfl 0 (by decide) (hts (.fieldLink RX2 23 "HopMeet$Scene" "channelCount" "I") (List.mem_of_getElem? (i := 2) rfl)) rfl dX2_aimOfJumpAndStay_67 ?_
    refine r_iremN hx hb (Nat.lt_of_lt_of_le (Nat.mod_lt _ (by omega)) (by omega : prN (cn z) ≤ 2 ^ 31)) (by omega) (by omega) dX2_aimOfJumpAndStay_70 ?_
    exact r_retS (v := nI ((((st + (c0 / (3 * (prN (cn z))))) + ((c0 % (3 * (prN (cn z)))) * (1 + (((j - 1) + ((c0 / (3 * (prN (cn z)))) / (prN (cn z)))) % (cn z))))) % (prN (cn z))) % (cn z))) hx hb hr hlocks (congrArg nI (if_pos c1).symm) dX2_aimOfJumpAndStay_71

set_option maxRecDepth 20000 in
theorem iiX2_aim_2 : ∀ w ∈ wsX20, w ∈ wsX2_aim := by decide +kernel
set_option maxHeartbeats 4000000 in
set_option maxRecDepth 100000 in
/-- where a row points -/
theorem c_X2_aim (l : Launch) (G : va_G) (t : gT) (o : Nat) (z : Nat → Int32) (hz : WF z) (u c0 : Nat) (hu : u < cu z) (hc : c0 ≤ 5000) : Met l yX2_aim wsX2_aim ({ frames := 1, cells := 0, slots := 0, locals := 26 } : Room) (pc_ [.ref o, .int (nI u), .int (nI c0)] (fun U H => KK G t U ∧ Sc G t o z H)) (vp_Si (fun r => r = nI (aimN z u c0))) 0 0 (fun _ => False) := by
  refine Met.ofW (cc := cX2_aim) (maxL := 6) (ret := (some .int)) (by decide) rfl ?_
  intro p e s m args below meth c s₁ B hml hv
  obtain ⟨rfl, hB⟩ := hv
  have hx := B.exec
  have hb := B.bytes
  have hr := B.returns
  have hts := atoms_spec (ws := wsX2_aim) B.pre
  have hown : s.vm.findClass RX2 = some m.cls := findClass_of_methodNamed B.named
  have hlocks := B.notSynchronized
  have hK := hB.1
  have hSc := hB.2
  have h0 := Sc_obj hSc
  have h1 := (Sc_rows hSc).1
  have h3 := (Sc_rows hSc).2
  have hn := hz.n
  have hu5 := hz.u5
  have hs8 := hz.s8
  have hp := prN_in (cn z)
  obtain ⟨fu, hf, e0, e1, e2, e3, e4⟩ := Sc_user hSc hz hu
  have huf := hz.us hu
  have b1 := huf.1.2
  have b2 := huf.2.1.2
  have b3 := huf.2.2.1.2
  have a4 : uT z u % cn z < cn z := Nat.mod_lt _ (by omega)
  have a5 : c0 * (1 + uT z u % cn z) ≤ 5000 * 11 := Nat.mul_le_mul hc (by omega)
  have hl := lv_entry ([.ref o, .int (nI u), .int (nI c0)]) (n := 6) (Nat.le_of_ble_eq_true rfl)
  rw [lg_entry_eq]
  generalize (lg_sl ([.ref o, .int (nI u), .int (nI c0)]) ++ List.replicate (6 - (lg_sl ([.ref o, .int (nI u), .int (nI c0)])).length) Slot.unset).toArray = ls at hl ⊢
  have hl : lv_has ls 6 [(0, .ref o), (1, .int (nI u)), (2, .int (nI c0))] := hl
  refine lv_aload_n hx hb dX2_aim_0 rfl (lv_at hl 0 rfl) ?_
  refine r_get (C := RX2) (T := TX2) (N := 6) hx hb hts iiX2_aim_2 hown hK h0 rfl 4 (by decide) (hts (.fieldLink RX2 11 "HopMeet$Scene" "users" "[[I") (List.mem_of_getElem? (i := 1) rfl)) rfl dX2_aim_1 ?_
  refine lv_iload_n hx hb dX2_aim_4 rfl (lv_at hl 1 rfl) ?_
  refine r_rald hx hb hK h1 1 rfl rfl u (by omega) (by decide) (b := o + 2 + u) (rowsF_at (by omega)) dX2_aim_5 ?_
  refine lv_astore_n (lv' := [(3, .ref (o + 2 + u)), (0, .ref o), (1, .int (nI u)), (2, .int (nI c0))]) hx hb dX2_aim_6 rfl hl (by decide) rfl (fun ls hl => ?_)
  refine lv_aload_n hx hb dX2_aim_7 rfl (lv_at hl 0 rfl) ?_
  refine lv_iconst (v := nI 1) hx hb dX2_aim_8 (by decide) ?_
  refine r_iald hx hb hK hf rfl 1 (by omega) (by decide) (v := nI (uS z u)) e1 dX2_aim_9 ?_
  refine lv_istore (lv' := [(4, .int (nI (uS z u))), (3, .ref (o + 2 + u)), (0, .ref o), (1, .int (nI u)), (2, .int (nI c0))]) hx hb dX2_aim_10 hl (by decide) rfl (fun ls hl => ?_)
  refine lv_iconst (v := nI 1) hx hb dX2_aim_12 (by decide) ?_
  refine lv_aload_n hx hb dX2_aim_13 rfl (lv_at hl 1 rfl) ?_
  refine lv_iconst (v := nI 2) hx hb dX2_aim_14 (by decide) ?_
  refine r_iald hx hb hK hf rfl 2 (by omega) (by decide) (v := nI (uT z u)) e2 dX2_aim_15 ?_
  refine lv_aload_n hx hb dX2_aim_16 rfl (lv_at hl 2 rfl) ?_
  refine r_get (C := RX2) (T := TX2) (N := 6) hx hb hts iiX2_aim_2 hown hK h0 rfl 0 (by decide) (hts (.fieldLink RX2 23 "HopMeet$Scene" "channelCount" "I") (List.mem_of_getElem? (i := 2) rfl)) rfl dX2_aim_17 ?_
  refine r_iremN hx hb (by omega) (by omega) (by omega) dX2_aim_20 ?_
  refine r_iaddN hx hb dX2_aim_21 ?_
  refine lv_istore (lv' := [(5, .int (nI (1 + ((uT z u) % (cn z))))), (4, .int (nI (uS z u))), (3, .ref (o + 2 + u)), (0, .ref o), (1, .int (nI u)), (2, .int (nI c0))]) hx hb dX2_aim_22 hl (by decide) rfl (fun ls hl => ?_)
  refine lv_aload_n hx hb dX2_aim_24 rfl (lv_at hl 2 rfl) ?_
  refine lv_iconst (v := nI 0) hx hb dX2_aim_25 (by decide) ?_
  refine r_iald hx hb hK hf rfl 0 (by omega) (by decide) (v := nI (uR z u)) e0 dX2_aim_26 ?_
  rcases (show uR z u = 0 ∨ uR z u = 1 ∨ uR z u = 2 ∨ uR z u = 3 by omega) with hk | hk | hk | hk
  · rw [hk]
    refine lv_tableIn (off := 25) (tgt := 52) hx hb dX2_aim_27 (by decide) (by decide) (by decide) (by decide) ?_
    refine lv_aload_n hx hb dX2_aim_52 rfl (lv_at hl 3 rfl) ?_
    refine lv_iload hx hb dX2_aim_53 (lv_at hl 1 rfl) ?_
    refine lv_iload hx hb dX2_aim_55 (lv_at hl 0 rfl) ?_
    refine lv_iload_n hx hb dX2_aim_57 rfl (lv_at hl 5 rfl) ?_
    refine r_cV (av := [.int (nI (uS z u)), .int (nI (1 + ((uT z u) % (cn z)))), .int (nI c0)]) (c_X2_aimOfJumpAndStay l G t o z hz (uS z u) (1 + uT z u % cn z) c0 b2 (by omega) (by omega) hc) ⟨hx, hb, hml, hown, hts⟩ (cwV 3 hts gX2_aim_X2_aimOfJumpAndStay rfl rfl rfl (by decide +kernel) ⟨Nat.le_of_ble_eq_true rfl, Nat.le_of_ble_eq_true rfl⟩) mv_K hB (at_recv hK h0 rfl) rfl hl (Nat.le_of_ble_eq_true rfl) ⟨Nat.le_of_ble_eq_true rfl, Nat.le_of_ble_eq_true rfl⟩ rfl dX2_aim_58 (fun r1 hr1 => ?_)
    subst hr1
    exact r_retS (v := nI (jsN (cn z) (uS z u) (1 + uT z u % cn z) c0)) hx hb hr hlocks (congrArg nI (show _ = aimN z u c0 by unfold aimN ptsN; rw [if_pos hk])) dX2_aim_61
  · rw [hk]
    refine lv_tableIn (off := 35) (tgt := 62) hx hb dX2_aim_27 (by decide) (by decide) (by decide) (by decide) ?_
    refine lv_iload hx hb dX2_aim_62 (lv_at hl 1 rfl) ?_
    refine lv_iload_n hx hb dX2_aim_64 rfl (lv_at hl 5 rfl) ?_
    refine r_iaddN hx hb dX2_aim_65 ?_
    refine lv_aload_n hx hb dX2_aim_66 rfl (lv_at hl 3 rfl) ?_
    refine r_get (C := RX2) (T := TX2) (N := 6) hx hb hts iiX2_aim_2 hown hK h0 rfl 0 (by decide) (hts (.fieldLink RX2 23 "HopMeet$Scene" "channelCount" "I") (List.mem_of_getElem? (i := 2) rfl)) rfl dX2_aim_67 ?_
    refine r_iremN hx hb (by omega) (by omega) (by omega) dX2_aim_70 ?_
    exact r_retS (v := nI (((uS z u) + c0) % (cn z))) hx hb hr hlocks (congrArg nI (show _ = aimN z u c0 by unfold aimN ptsN; rw [if_neg (by omega), if_pos hk])) dX2_aim_71
  · rw [hk]
    refine lv_tableIn (off := 45) (tgt := 72) hx hb dX2_aim_27 (by decide) (by decide) (by decide) (by decide) ?_
    refine lv_iload hx hb dX2_aim_72 (lv_at hl 1 rfl) ?_
    refine lv_aload_n hx hb dX2_aim_74 rfl (lv_at hl 3 rfl) ?_
    refine r_get (C := RX2) (T := TX2) (N := 6) hx hb hts iiX2_aim_2 hown hK h0 rfl 0 (by decide) (hts (.fieldLink RX2 23 "HopMeet$Scene" "channelCount" "I") (List.mem_of_getElem? (i := 2) rfl)) rfl dX2_aim_75 ?_
    refine r_iremN hx hb (by omega) (by omega) (by omega) dX2_aim_78 ?_
    exact r_retS (v := nI ((uS z u) % (cn z))) hx hb hr hlocks (congrArg nI (show _ = aimN z u c0 by unfold aimN ptsN; rw [if_neg (by omega), if_neg (by omega), if_pos hk])) dX2_aim_79
  · rw [hk]
    refine lv_tableOut (tgt := 80) hx hb dX2_aim_27 (Or.inr (by decide)) (by decide) ?_
    refine lv_iload hx hb dX2_aim_80 (lv_at hl 1 rfl) ?_
    refine lv_iload_n hx hb dX2_aim_82 rfl (lv_at hl 5 rfl) ?_
    refine lv_iload hx hb dX2_aim_83 (lv_at hl 0 rfl) ?_
    refine r_imulN hx hb dX2_aim_85 ?_
    refine r_iaddN hx hb dX2_aim_86 ?_
    refine lv_aload_n hx hb dX2_aim_87 rfl (lv_at hl 3 rfl) ?_
    refine r_get (C := RX2) (T := TX2) (N := 6) hx hb hts iiX2_aim_2 hown hK h0 rfl 1 (by decide) (hts (.fieldLink RX2 31 "HopMeet$Scene" "prime" "I") (List.mem_of_getElem? (i := 3) rfl)) rfl dX2_aim_88 ?_
    refine r_iremN hx hb (by omega) (by omega) (by omega) dX2_aim_91 ?_
    refine lv_aload_n hx hb dX2_aim_92 rfl (lv_at hl 3 rfl) ?_
    refine r_get (C := RX2) (T := TX2) (N := 6) hx hb hts iiX2_aim_2 hown hK h0 rfl 0 (by decide) (hts (.fieldLink RX2 23 "HopMeet$Scene" "channelCount" "I") (List.mem_of_getElem? (i := 2) rfl)) rfl dX2_aim_93 ?_
    refine r_iremN hx hb (Nat.lt_of_lt_of_le (Nat.mod_lt _ (by omega)) (by omega : prN (cn z) ≤ 2 ^ 31)) (by omega) (by omega) dX2_aim_96 ?_
    exact r_retS (v := nI ((((uS z u) + (c0 * (1 + ((uT z u) % (cn z))))) % (prN (cn z))) % (cn z))) hx hb hr hlocks (congrArg nI (show _ = aimN z u c0 by unfold aimN ptsN; rw [if_neg (by omega), if_neg (by omega), if_neg (by omega)])) dX2_aim_97

set_option maxRecDepth 20000 in
theorem iiX2_placeByClock_2 : ∀ w ∈ wsX20, w ∈ wsX2_placeByClock := by decide +kernel
set_option maxHeartbeats 4000000 in
set_option maxRecDepth 100000 in
/-- where a user is by its clock -/
theorem c_X2_placeByClock (l : Launch) (G : va_G) (t : gT) (o : Nat) (z : Nat → Int32) (hz : WF z) (u c0 : Nat) (hu : u < cu z) (hc : c0 ≤ 5000) : Met l yX2_placeByClock wsX2_placeByClock ({ frames := 2, cells := 0, slots := 0, locals := 51 } : Room) (pc_ [.ref o, .int (nI u), .int (nI c0)] (fun U H => KK G t U ∧ Sc G t o z H)) (vp_Si (fun r => r = plN z u c0)) 0 0 (fun _ => False) := by
  refine Met.ofW (cc := cX2_placeByClock) (maxL := 5) (ret := (some .int)) (by decide) rfl ?_
  intro p e s m args below meth c s₁ B hml hv
  obtain ⟨rfl, hB⟩ := hv
  have hx := B.exec
  have hb := B.bytes
  have hr := B.returns
  have hts := atoms_spec (ws := wsX2_placeByClock) B.pre
  have hown : s.vm.findClass RX2 = some m.cls := findClass_of_methodNamed B.named
  have hlocks := B.notSynchronized
  have hK := hB.1
  have hSc := hB.2
  have h0 := Sc_obj hSc
  have h1 := (Sc_rows hSc).1
  have h3 := (Sc_rows hSc).2
  have hn := hz.n
  have hu5 := hz.u5
  have hs8 := hz.s8
  have hp := prN_in (cn z)
  obtain ⟨fu, hf, e0, e1, e2, e3, e4⟩ := Sc_user hSc hz hu
  have huf := hz.us hu
  have b5 := hz.o hu
  have b6 := hz.aim u c0
  have hl := lv_entry ([.ref o, .int (nI u), .int (nI c0)]) (n := 5) (Nat.le_of_ble_eq_true rfl)
  rw [lg_entry_eq]
  generalize (lg_sl ([.ref o, .int (nI u), .int (nI c0)]) ++ List.replicate (5 - (lg_sl ([.ref o, .int (nI u), .int (nI c0)])).length) Slot.unset).toArray = ls at hl ⊢
  have hl : lv_has ls 5 [(0, .ref o), (1, .int (nI u)), (2, .int (nI c0))] := hl
  refine lv_aload_n hx hb dX2_placeByClock_0 rfl (lv_at hl 0 rfl) ?_
  refine r_get (C := RX2) (T := TX2) (N := 6) hx hb hts iiX2_placeByClock_2 hown hK h0 rfl 4 (by decide) (hts (.fieldLink RX2 11 "HopMeet$Scene" "users" "[[I") (List.mem_of_getElem? (i := 1) rfl)) rfl dX2_placeByClock_1 ?_
  refine lv_iload_n hx hb dX2_placeByClock_4 rfl (lv_at hl 1 rfl) ?_
  refine r_rald hx hb hK h1 1 rfl rfl u (by omega) (by decide) (b := o + 2 + u) (rowsF_at (by omega)) dX2_placeByClock_5 ?_
  refine lv_iconst (v := nI 4) hx hb dX2_placeByClock_6 (by decide) ?_
  refine r_iald hx hb hK hf rfl 4 (by omega) (by decide) (v := nI (uO z u)) e4 dX2_placeByClock_7 ?_
  refine lv_istore_n (lv' := [(3, .int (nI (uO z u))), (0, .ref o), (1, .int (nI u)), (2, .int (nI c0))]) hx hb dX2_placeByClock_8 rfl hl (by decide) rfl (fun ls hl => ?_)
  refine lv_iload_n hx hb dX2_placeByClock_9 rfl (lv_at hl 0 rfl) ?_
  refine r_ifneN hx hb (by omega) dX2_placeByClock_10 (tgt := 15) (by decide) (fun c1 => ?_) (fun c1 => ?_)
  · refine lv_aload_n hx hb dX2_placeByClock_15 rfl (lv_at hl 1 rfl) ?_
    refine lv_iload_n hx hb dX2_placeByClock_16 rfl (lv_at hl 2 rfl) ?_
    refine lv_iload_n hx hb dX2_placeByClock_17 rfl (lv_at hl 3 rfl) ?_
    refine r_cV (av := [.int (nI u), .int (nI c0)]) (c_X2_aim l G t o z hz u c0 hu hc) ⟨hx, hb, hml, hown, hts⟩ (cwV 2 hts gX2_placeByClock_X2_aim rfl rfl rfl (by decide +kernel) ⟨Nat.le_of_ble_eq_true rfl, Nat.le_of_ble_eq_true rfl⟩) mv_K hB (at_recv hK h0 rfl) rfl hl (Nat.le_of_ble_eq_true rfl) ⟨Nat.le_of_ble_eq_true rfl, Nat.le_of_ble_eq_true rfl⟩ rfl dX2_placeByClock_18 (fun r1 hr1 => ?_)
    subst hr1
    refine lv_istore (lv' := [(4, .int (nI (aimN z u c0))), (3, .int (nI (uO z u))), (0, .ref o), (1, .int (nI u)), (2, .int (nI c0))]) hx hb dX2_placeByClock_21 hl (by decide) rfl (fun ls hl => ?_)
    refine lv_iload_n hx hb dX2_placeByClock_23 rfl (lv_at hl 1 rfl) ?_
    refine lv_iload hx hb dX2_placeByClock_24 (lv_at hl 0 rfl) ?_
    refine r_cS (av := [.int (nI (uO z u)), .int (nI (aimN z u c0))]) (c_X2_holds l G t (uO z u) (aimN z u c0) (by omega) (by omega)) ⟨hx, hb, hml, hown, hts⟩ (va_cwS 2 hts gX2_placeByClock_X2_holds rfl rfl rfl (by decide +kernel) ⟨Nat.le_of_ble_eq_true rfl, Nat.le_of_ble_eq_true rfl⟩) mv_T trivial rfl hl (Nat.le_of_ble_eq_true rfl) ⟨Nat.le_of_ble_eq_true rfl, Nat.le_of_ble_eq_true rfl⟩ rfl dX2_placeByClock_26 (fun r2 hr2 => ?_)
    subst hr2
    refine r_ifeqB hx hb dX2_placeByClock_29 (tgt := 37) (by decide) (fun c2 => ?_) (fun c2 => ?_)
    · refine lv_iload_n hx hb dX2_placeByClock_37 rfl (lv_at hl 1 rfl) ?_
      refine lv_iload hx hb dX2_placeByClock_38 (lv_at hl 0 rfl) ?_
      refine lv_iload_n hx hb dX2_placeByClock_40 rfl (lv_at hl 1 rfl) ?_
      refine r_cS (av := [.int (nI (uO z u))]) (c_J6_bitCount_0f7a4 l G t (uO z u) b5) ⟨hx, hb, hml, hown, hts⟩ (va_cwS 1 hts gX2_placeByClock_J6_bitCount_0f7a4 rfl rfl rfl (by decide +kernel) ⟨Nat.le_of_ble_eq_true rfl, Nat.le_of_ble_eq_true rfl⟩) mv_T trivial rfl hl (Nat.le_of_ble_eq_true rfl) ⟨Nat.le_of_ble_eq_true rfl, Nat.le_of_ble_eq_true rfl⟩ rfl dX2_placeByClock_41 (fun r3 hr3 => ?_)
      subst hr3
      have b7 := ones_pos _ b5 (Nat.pos_of_ne_zero c1)
      have b8 := ones_le _ b5
      refine r_iremN hx hb (by omega) (by omega) (by omega) dX2_placeByClock_44 ?_
      refine r_cS (av := [.int (nI (uO z u)), .int (nI ((aimN z u c0) % (onesN (uO z u))))]) (c_X2_memberWithNumber l G t (uO z u) (aimN z u c0 % onesN (uO z u)) b5 (Nat.mod_lt _ b7)) ⟨hx, hb, hml, hown, hts⟩ (va_cwS 2 hts gX2_placeByClock_X2_memberWithNumber rfl rfl rfl (by decide +kernel) ⟨Nat.le_of_ble_eq_true rfl, Nat.le_of_ble_eq_true rfl⟩) mv_T trivial rfl hl (Nat.le_of_ble_eq_true rfl) ⟨Nat.le_of_ble_eq_true rfl, Nat.le_of_ble_eq_true rfl⟩ rfl dX2_placeByClock_45 (fun r4 hr4 => ?_)
      subst hr4
      exact r_retS (v := nI (mwN (uO z u) 10 0 (aimN z u c0 % onesN (uO z u)))) hx hb hr hlocks ((plN_1 c1).trans (congrArg nI (if_neg (of_decide_eq_false c2)))).symm dX2_placeByClock_48
    · refine lv_iload hx hb dX2_placeByClock_32 (lv_at hl 0 rfl) ?_
      refine lv_goto (tgt := 48) hx hb dX2_placeByClock_34 (by decide) ?_
      exact r_retS (v := nI (aimN z u c0)) hx hb hr hlocks ((plN_1 c1).trans (congrArg nI (if_pos (of_decide_eq_true c2)))).symm dX2_placeByClock_48
  · refine lv_iconst (v := (-1)) hx hb dX2_placeByClock_13 (by decide) ?_
    exact r_retS (v := (-1)) hx hb hr hlocks (plN_0 c1).symm dX2_placeByClock_14

set_option maxRecDepth 20000 in
theorem iiX2_isShut_2 : ∀ w ∈ wsX20, w ∈ wsX2_isShut := by decide +kernel
set_option maxHeartbeats 4000000 in
set_option maxRecDepth 100000 in
/-- whether a channel is shut for a user at a slot -/
theorem c_X2_isShut (l : Launch) (G : va_G) (t : gT) (o : Nat) (z : Nat → Int32) (hz : WF z) (u y : Nat) (ch : Int32) (hu : u < cu z) (hy : y ≤ 5000) : Met l yX2_isShut wsX2_isShut ({ frames := 0, cells := 0, slots := 0, locals := 0 } : Room) (pc_ [.ref o, .int (nI u), .int ch, .int (nI y)] (fun U H => KK G t U ∧ Sc G t o z H)) (vp_Si (fun r => r = bI (shB z u ch y (cs z)))) 0 0 (fun _ => False) := by
  refine Met.ofW (cc := cX2_isShut) (maxL := 8) (ret := (some .boolean)) (by decide) rfl ?_
  intro p e s m args below meth c s₁ B hml hv
  obtain ⟨rfl, hB⟩ := hv
  have hx := B.exec
  have hb := B.bytes
  have hr := B.returns
  have hts := atoms_spec (ws := wsX2_isShut) B.pre
  have hown : s.vm.findClass RX2 = some m.cls := findClass_of_methodNamed B.named
  have hlocks := B.notSynchronized
  have hK := hB.1
  have hSc := hB.2
  have h0 := Sc_obj hSc
  have h1 := (Sc_rows hSc).1
  have h3 := (Sc_rows hSc).2
  have hn := hz.n
  have hu5 := hz.u5
  have hs8 := hz.s8
  have hp := prN_in (cn z)
  have hl := lv_entry ([.ref o, .int (nI u), .int ch, .int (nI y)]) (n := 8) (Nat.le_of_ble_eq_true rfl)
  rw [lg_entry_eq]
  generalize (lg_sl ([.ref o, .int (nI u), .int ch, .int (nI y)]) ++ List.replicate (8 - (lg_sl ([.ref o, .int (nI u), .int ch, .int (nI y)])).length) Slot.unset).toArray = ls at hl ⊢
  have hl : lv_has ls 8 [(0, .ref o), (1, .int (nI u)), (2, .int ch), (3, .int (nI y))] := hl
  refine lv_iconst (v := nI 0) hx hb dX2_isShut_0 (by decide) ?_
  refine lv_istore (lv' := [(4, .int (nI 0)), (0, .ref o), (1, .int (nI u)), (2, .int ch), (3, .int (nI y))]) hx hb dX2_isShut_1 hl (by decide) rfl (fun ls hl => ?_)
  have loop3 : ∀ (fu : Nat) (j : Nat) (hj : j ≤ cs z) (hd : shB z u ch y j = false) (hfu : cs z - j < fu) (ls : Array Slot) (hl : lv_has ls 8 [(0, .ref o), (1, .int (nI u)), (2, .int ch), (3, .int (nI y)), (4, .int (nI j))]), W p l e (headSpec wsX2_isShut ({ frames := 0, cells := 0, slots := 0, locals := 0 } : Room)).room s m ([.ref o, .int (nI u), .int ch, .int (nI y)] : List Value).toArray below meth c s.heap [] 0 0 (MQ below (vp_Si (fun r => r = bI (shB z u ch y (cs z)))) ([.ref o, .int (nI u), .int ch, .int (nI y)] : List Value).toArray s 0 0 (fun _ => False)) (F0 m 3 ls []) := by
    intro fu
    induction fu with
    | zero => intro j hj hd hfu; exact absurd hfu (Nat.not_lt_zero _)
    | succ fu3 ih3 =>
      intro j hj hd hfu ls hl
      refine lv_iload hx hb dX2_isShut_3 (lv_at hl 4 rfl) ?_
      refine lv_aload_n hx hb dX2_isShut_5 rfl (lv_at hl 0 rfl) ?_
      refine r_get (C := RX2) (T := TX2) (N := 6) hx hb hts iiX2_isShut_2 hown hK h0 rfl 3 (by decide) (hts (.fieldLink RX2 37 "HopMeet$Scene" "spellCount" "I") (List.mem_of_getElem? (i := 1) rfl)) rfl dX2_isShut_6 ?_
      refine r_geN hx hb (by omega) (by omega) dX2_isShut_9 (tgt := 87) (by decide) (fun c1 => ?_) (fun c1 => ?_)
      · refine lv_iconst (v := nI 0) hx hb dX2_isShut_87 (by decide) ?_
        exact r_retZ (v := nI 0) hx hb hr hlocks false rfl (by rw [show cs z = j by omega, hd]; rfl) dX2_isShut_88
      · obtain ⟨fs, hg, s0, s1, s2, s3⟩ := Sc_spell hSc hz c1
        have hsf := hz.sp c1
        have hsl := hsf.2.2.1.2
        have hsm := hsf.2.2.2.2
        refine lv_aload_n hx hb dX2_isShut_12 rfl (lv_at hl 0 rfl) ?_
        refine r_get (C := RX2) (T := TX2) (N := 6) hx hb hts iiX2_isShut_2 hown hK h0 rfl 5 (by decide) (hts (.fieldLink RX2 16 "HopMeet$Scene" "spells" "[[I") (List.mem_of_getElem? (i := 2) rfl)) rfl dX2_isShut_13 ?_
        refine lv_iload hx hb dX2_isShut_16 (lv_at hl 4 rfl) ?_
        refine r_rald hx hb hK h3 1 rfl rfl j (by omega) (by decide) (b := o + 8 + j) (rowsF_at (by omega)) dX2_isShut_18 ?_
        refine lv_astore (lv' := [(5, .ref (o + 8 + j)), (0, .ref o), (1, .int (nI u)), (2, .int ch), (3, .int (nI y)), (4, .int (nI j))]) hx hb dX2_isShut_19 hl (by decide) rfl (fun ls hl => ?_)
        refine lv_aload hx hb dX2_isShut_21 (lv_at hl 0 rfl) ?_
        refine lv_iconst (v := nI 1) hx hb dX2_isShut_23 (by decide) ?_
        refine r_iald hx hb hK hg rfl 1 (by omega) (by decide) (v := nI (sC z j)) s1 dX2_isShut_24 ?_
        refine lv_iload_n hx hb dX2_isShut_25 rfl (lv_at hl 3 rfl) ?_
        refine lv_icmp_ne (tgt := 49) hx hb dX2_isShut_26 (by decide) (fun c2 => ?_) (fun c2 => ?_)
        · refine lv_iconst (v := nI 0) hx hb dX2_isShut_49 (by decide) ?_
          refine lv_istore (lv' := [(6, .int (nI 0)), (5, .ref (o + 8 + j)), (0, .ref o), (1, .int (nI u)), (2, .int ch), (3, .int (nI y)), (4, .int (nI j))]) hx hb dX2_isShut_50 hl (by decide) rfl (fun ls hl => ?_)
          refine lv_iload_n hx hb dX2_isShut_52 rfl (lv_at hl 5 rfl) ?_
          refine lv_aload hx hb dX2_isShut_53 (lv_at hl 1 rfl) ?_
          refine lv_iconst (v := nI 2) hx hb dX2_isShut_55 (by decide) ?_
          refine r_iald hx hb hK hg rfl 2 (by omega) (by decide) (v := nI (sL z j)) s2 dX2_isShut_56 ?_
          rcases Nat.lt_or_ge y (sL z j) with hw | hw
          · refine lv_isub hx hb dX2_isShut_57 ?_
            refine lv_istore (lv' := [(7, .int ((nI y) - (nI (sL z j)))), (6, .int (nI 0)), (5, .ref (o + 8 + j)), (0, .ref o), (1, .int (nI u)), (2, .int ch), (3, .int (nI y)), (4, .int (nI j))]) hx hb dX2_isShut_58 hl (by decide) rfl (fun ls hl => ?_)
            refine lv_iload hx hb dX2_isShut_60 (lv_at hl 1 rfl) ?_
            refine r_ifeqN hx hb (by omega) dX2_isShut_62 (tgt := 81) (by decide) (fun _ => ?_) (fun c1 => absurd c1 (by decide))
            refine lv_iinc (v := nI (j + 1)) (lv' := [(4, .int (nI (j + 1))), (7, .int ((nI y) - (nI (sL z j)))), (6, .int (nI 0)), (5, .ref (o + 8 + j)), (0, .ref o), (1, .int (nI u)), (2, .int ch), (3, .int (nI y))]) hx hb dX2_isShut_81 hl (k := 7) rfl (nI_1 _) (by decide) rfl (fun ls hl => ?_)
            refine lv_goto (tgt := 3) hx hb dX2_isShut_84 (by decide) ?_
            exact ih3 (j + 1) c1 (shB_no hd (sh_no hsf (fun q => by obtain ⟨q1, q2, q3, q4⟩ := q; first | exact c2 q1 | (rcases q2 with q2 | q2; exact c3 q2; exact c4 q2) | omega))) (by omega) ls (lv_sub hl [4, 5, 6, 7, 0] rfl)
          · refine r_isubN hx hb hw dX2_isShut_57 ?_
            refine lv_istore (lv' := [(7, .int (nI (y - (sL z j)))), (6, .int (nI 0)), (5, .ref (o + 8 + j)), (0, .ref o), (1, .int (nI u)), (2, .int ch), (3, .int (nI y)), (4, .int (nI j))]) hx hb dX2_isShut_58 hl (by decide) rfl (fun ls hl => ?_)
            refine lv_iload hx hb dX2_isShut_60 (lv_at hl 1 rfl) ?_
            refine r_ifeqN hx hb (by omega) dX2_isShut_62 (tgt := 81) (by decide) (fun _ => ?_) (fun c2 => absurd c2 (by decide))
            refine lv_iinc (v := nI (j + 1)) (lv' := [(4, .int (nI (j + 1))), (7, .int (nI (y - (sL z j)))), (6, .int (nI 0)), (5, .ref (o + 8 + j)), (0, .ref o), (1, .int (nI u)), (2, .int ch), (3, .int (nI y))]) hx hb dX2_isShut_81 hl (k := 7) rfl (nI_1 _) (by decide) rfl (fun ls hl => ?_)
            refine lv_goto (tgt := 3) hx hb dX2_isShut_84 (by decide) ?_
            exact ih3 (j + 1) c1 (shB_no hd (sh_no hsf (fun q => by obtain ⟨q1, q2, q3, q4⟩ := q; first | exact c2 q1 | (rcases q2 with q2 | q2; exact c3 q2; exact c4 q2) | omega))) (by omega) ls (lv_sub hl [4, 5, 6, 7, 0] rfl)
        · refine lv_aload hx hb dX2_isShut_29 (lv_at hl 0 rfl) ?_
          refine lv_iconst (v := nI 0) hx hb dX2_isShut_31 (by decide) ?_
          refine r_iald hx hb hK hg rfl 0 (by omega) (by decide) (v := sU z j) s0 dX2_isShut_32 ?_
          refine lv_iconst (v := (-1)) hx hb dX2_isShut_33 (by decide) ?_
          refine lv_icmp_eq (tgt := 45) hx hb dX2_isShut_34 (by decide) (fun c3 => ?_) (fun c3 => ?_)
          · refine lv_iconst (v := nI 1) hx hb dX2_isShut_45 (by decide) ?_
            refine lv_goto (tgt := 50) hx hb dX2_isShut_46 (by decide) ?_
            refine lv_istore (lv' := [(6, .int (nI 1)), (5, .ref (o + 8 + j)), (0, .ref o), (1, .int (nI u)), (2, .int ch), (3, .int (nI y)), (4, .int (nI j))]) hx hb dX2_isShut_50 hl (by decide) rfl (fun ls hl => ?_)
            refine lv_iload_n hx hb dX2_isShut_52 rfl (lv_at hl 5 rfl) ?_
            refine lv_aload hx hb dX2_isShut_53 (lv_at hl 1 rfl) ?_
            refine lv_iconst (v := nI 2) hx hb dX2_isShut_55 (by decide) ?_
            refine r_iald hx hb hK hg rfl 2 (by omega) (by decide) (v := nI (sL z j)) s2 dX2_isShut_56 ?_
            rcases Nat.lt_or_ge y (sL z j) with hw | hw
            · refine lv_isub hx hb dX2_isShut_57 ?_
              refine lv_istore (lv' := [(7, .int ((nI y) - (nI (sL z j)))), (6, .int (nI 1)), (5, .ref (o + 8 + j)), (0, .ref o), (1, .int (nI u)), (2, .int ch), (3, .int (nI y)), (4, .int (nI j))]) hx hb dX2_isShut_58 hl (by decide) rfl (fun ls hl => ?_)
              refine lv_iload hx hb dX2_isShut_60 (lv_at hl 1 rfl) ?_
              refine r_ifeqN hx hb (by omega) dX2_isShut_62 (tgt := 81) (by decide) (fun c3 => absurd c3 (by decide)) (fun _ => ?_)
              refine lv_iload hx hb dX2_isShut_65 (lv_at hl 0 rfl) ?_
              refine lv_if_lt (tgt := 81) hx hb dX2_isShut_67 (by decide) (fun c5 => ?_) (fun c5 => ?_)
              · refine lv_iinc (v := nI (j + 1)) (lv' := [(4, .int (nI (j + 1))), (7, .int ((nI y) - (nI (sL z j)))), (6, .int (nI 1)), (5, .ref (o + 8 + j)), (0, .ref o), (1, .int (nI u)), (2, .int ch), (3, .int (nI y))]) hx hb dX2_isShut_81 hl (k := 7) rfl (nI_1 _) (by decide) rfl (fun ls hl => ?_)
                refine lv_goto (tgt := 3) hx hb dX2_isShut_84 (by decide) ?_
                exact ih3 (j + 1) c1 (shB_no hd (sh_no hsf (fun q => by obtain ⟨q1, q2, q3, q4⟩ := q; first | exact c2 q1 | (rcases q2 with q2 | q2; exact c3 q2; exact c4 q2) | omega))) (by omega) ls (lv_sub hl [4, 5, 6, 7, 0] rfl)
              · exact absurd (pk_sneg (by omega) hw) c5
            · refine r_isubN hx hb hw dX2_isShut_57 ?_
              refine lv_istore (lv' := [(7, .int (nI (y - (sL z j)))), (6, .int (nI 1)), (5, .ref (o + 8 + j)), (0, .ref o), (1, .int (nI u)), (2, .int ch), (3, .int (nI y)), (4, .int (nI j))]) hx hb dX2_isShut_58 hl (by decide) rfl (fun ls hl => ?_)
              refine lv_iload hx hb dX2_isShut_60 (lv_at hl 1 rfl) ?_
              refine r_ifeqN hx hb (by omega) dX2_isShut_62 (tgt := 81) (by decide) (fun c4 => absurd c4 (by decide)) (fun _ => ?_)
              refine lv_iload hx hb dX2_isShut_65 (lv_at hl 0 rfl) ?_
              refine lv_if_lt (tgt := 81) hx hb dX2_isShut_67 (by decide) (fun c5 => absurd c5 (nI_pos (by omega))) (fun _ => ?_)
              refine lv_iload hx hb dX2_isShut_70 (lv_at hl 0 rfl) ?_
              refine lv_aload hx hb dX2_isShut_72 (lv_at hl 2 rfl) ?_
              refine lv_iconst (v := nI 3) hx hb dX2_isShut_74 (by decide) ?_
              refine r_iald hx hb hK hg rfl 3 (by omega) (by decide) (v := nI (sM z j)) s3 dX2_isShut_75 ?_
              refine r_geN hx hb (by omega) (by omega) dX2_isShut_76 (tgt := 81) (by decide) (fun c6 => ?_) (fun c6 => ?_)
              · refine lv_iinc (v := nI (j + 1)) (lv' := [(4, .int (nI (j + 1))), (7, .int (nI (y - (sL z j)))), (6, .int (nI 1)), (5, .ref (o + 8 + j)), (0, .ref o), (1, .int (nI u)), (2, .int ch), (3, .int (nI y))]) hx hb dX2_isShut_81 hl (k := 7) rfl (nI_1 _) (by decide) rfl (fun ls hl => ?_)
                refine lv_goto (tgt := 3) hx hb dX2_isShut_84 (by decide) ?_
                exact ih3 (j + 1) c1 (shB_no hd (sh_no hsf (fun q => by obtain ⟨q1, q2, q3, q4⟩ := q; first | exact c2 q1 | (rcases q2 with q2 | q2; exact c3 q2; exact c4 q2) | omega))) (by omega) ls (lv_sub hl [4, 5, 6, 7, 0] rfl)
              · refine lv_iconst (v := nI 1) hx hb dX2_isShut_79 (by decide) ?_
                exact r_retZ (v := nI 1) hx hb hr hlocks true rfl (by rw [shB_mono (j := j + 1) (shB_yes (sh_yes hsf ⟨c2, by first | exact Or.inl c3 | exact Or.inr (c4), hw, by omega⟩)) c1]; rfl) dX2_isShut_80
          · refine lv_aload hx hb dX2_isShut_37 (lv_at hl 0 rfl) ?_
            refine lv_iconst (v := nI 0) hx hb dX2_isShut_39 (by decide) ?_
            refine r_iald hx hb hK hg rfl 0 (by omega) (by decide) (v := sU z j) s0 dX2_isShut_40 ?_
            refine lv_iload_n hx hb dX2_isShut_41 rfl (lv_at hl 2 rfl) ?_
            refine lv_icmp_ne (tgt := 49) hx hb dX2_isShut_42 (by decide) (fun c4 => ?_) (fun c4 => ?_)
            · refine lv_iconst (v := nI 0) hx hb dX2_isShut_49 (by decide) ?_
              refine lv_istore (lv' := [(6, .int (nI 0)), (5, .ref (o + 8 + j)), (0, .ref o), (1, .int (nI u)), (2, .int ch), (3, .int (nI y)), (4, .int (nI j))]) hx hb dX2_isShut_50 hl (by decide) rfl (fun ls hl => ?_)
              refine lv_iload_n hx hb dX2_isShut_52 rfl (lv_at hl 5 rfl) ?_
              refine lv_aload hx hb dX2_isShut_53 (lv_at hl 1 rfl) ?_
              refine lv_iconst (v := nI 2) hx hb dX2_isShut_55 (by decide) ?_
              refine r_iald hx hb hK hg rfl 2 (by omega) (by decide) (v := nI (sL z j)) s2 dX2_isShut_56 ?_
              rcases Nat.lt_or_ge y (sL z j) with hw | hw
              · refine lv_isub hx hb dX2_isShut_57 ?_
                refine lv_istore (lv' := [(7, .int ((nI y) - (nI (sL z j)))), (6, .int (nI 0)), (5, .ref (o + 8 + j)), (0, .ref o), (1, .int (nI u)), (2, .int ch), (3, .int (nI y)), (4, .int (nI j))]) hx hb dX2_isShut_58 hl (by decide) rfl (fun ls hl => ?_)
                refine lv_iload hx hb dX2_isShut_60 (lv_at hl 1 rfl) ?_
                refine r_ifeqN hx hb (by omega) dX2_isShut_62 (tgt := 81) (by decide) (fun _ => ?_) (fun c5 => absurd c5 (by decide))
                refine lv_iinc (v := nI (j + 1)) (lv' := [(4, .int (nI (j + 1))), (7, .int ((nI y) - (nI (sL z j)))), (6, .int (nI 0)), (5, .ref (o + 8 + j)), (0, .ref o), (1, .int (nI u)), (2, .int ch), (3, .int (nI y))]) hx hb dX2_isShut_81 hl (k := 7) rfl (nI_1 _) (by decide) rfl (fun ls hl => ?_)
                refine lv_goto (tgt := 3) hx hb dX2_isShut_84 (by decide) ?_
                exact ih3 (j + 1) c1 (shB_no hd (sh_no hsf (fun q => by obtain ⟨q1, q2, q3, q4⟩ := q; first | exact c2 q1 | (rcases q2 with q2 | q2; exact c3 q2; exact c4 q2) | omega))) (by omega) ls (lv_sub hl [4, 5, 6, 7, 0] rfl)
              · refine r_isubN hx hb hw dX2_isShut_57 ?_
                refine lv_istore (lv' := [(7, .int (nI (y - (sL z j)))), (6, .int (nI 0)), (5, .ref (o + 8 + j)), (0, .ref o), (1, .int (nI u)), (2, .int ch), (3, .int (nI y)), (4, .int (nI j))]) hx hb dX2_isShut_58 hl (by decide) rfl (fun ls hl => ?_)
                refine lv_iload hx hb dX2_isShut_60 (lv_at hl 1 rfl) ?_
                refine r_ifeqN hx hb (by omega) dX2_isShut_62 (tgt := 81) (by decide) (fun _ => ?_) (fun c6 => absurd c6 (by decide))
                refine lv_iinc (v := nI (j + 1)) (lv' := [(4, .int (nI (j + 1))), (7, .int (nI (y - (sL z j)))), (6, .int (nI 0)), (5, .ref (o + 8 + j)), (0, .ref o), (1, .int (nI u)), (2, .int ch), (3, .int (nI y))]) hx hb dX2_isShut_81 hl (k := 7) rfl (nI_1 _) (by decide) rfl (fun ls hl => ?_)
                refine lv_goto (tgt := 3) hx hb dX2_isShut_84 (by decide) ?_
                exact ih3 (j + 1) c1 (shB_no hd (sh_no hsf (fun q => by obtain ⟨q1, q2, q3, q4⟩ := q; first | exact c2 q1 | (rcases q2 with q2 | q2; exact c3 q2; exact c4 q2) | omega))) (by omega) ls (lv_sub hl [4, 5, 6, 7, 0] rfl)
            · refine lv_iconst (v := nI 1) hx hb dX2_isShut_45 (by decide) ?_
              refine lv_goto (tgt := 50) hx hb dX2_isShut_46 (by decide) ?_
              refine lv_istore (lv' := [(6, .int (nI 1)), (5, .ref (o + 8 + j)), (0, .ref o), (1, .int (nI u)), (2, .int ch), (3, .int (nI y)), (4, .int (nI j))]) hx hb dX2_isShut_50 hl (by decide) rfl (fun ls hl => ?_)
              refine lv_iload_n hx hb dX2_isShut_52 rfl (lv_at hl 5 rfl) ?_
              refine lv_aload hx hb dX2_isShut_53 (lv_at hl 1 rfl) ?_
              refine lv_iconst (v := nI 2) hx hb dX2_isShut_55 (by decide) ?_
              refine r_iald hx hb hK hg rfl 2 (by omega) (by decide) (v := nI (sL z j)) s2 dX2_isShut_56 ?_
              rcases Nat.lt_or_ge y (sL z j) with hw | hw
              · refine lv_isub hx hb dX2_isShut_57 ?_
                refine lv_istore (lv' := [(7, .int ((nI y) - (nI (sL z j)))), (6, .int (nI 1)), (5, .ref (o + 8 + j)), (0, .ref o), (1, .int (nI u)), (2, .int ch), (3, .int (nI y)), (4, .int (nI j))]) hx hb dX2_isShut_58 hl (by decide) rfl (fun ls hl => ?_)
                refine lv_iload hx hb dX2_isShut_60 (lv_at hl 1 rfl) ?_
                refine r_ifeqN hx hb (by omega) dX2_isShut_62 (tgt := 81) (by decide) (fun c7 => absurd c7 (by decide)) (fun _ => ?_)
                refine lv_iload hx hb dX2_isShut_65 (lv_at hl 0 rfl) ?_
                refine lv_if_lt (tgt := 81) hx hb dX2_isShut_67 (by decide) (fun c5 => ?_) (fun c5 => ?_)
                · refine lv_iinc (v := nI (j + 1)) (lv' := [(4, .int (nI (j + 1))), (7, .int ((nI y) - (nI (sL z j)))), (6, .int (nI 1)), (5, .ref (o + 8 + j)), (0, .ref o), (1, .int (nI u)), (2, .int ch), (3, .int (nI y))]) hx hb dX2_isShut_81 hl (k := 7) rfl (nI_1 _) (by decide) rfl (fun ls hl => ?_)
                  refine lv_goto (tgt := 3) hx hb dX2_isShut_84 (by decide) ?_
                  exact ih3 (j + 1) c1 (shB_no hd (sh_no hsf (fun q => by obtain ⟨q1, q2, q3, q4⟩ := q; first | exact c2 q1 | (rcases q2 with q2 | q2; exact c3 q2; exact c4 q2) | omega))) (by omega) ls (lv_sub hl [4, 5, 6, 7, 0] rfl)
                · exact absurd (pk_sneg (by omega) hw) c5
              · refine r_isubN hx hb hw dX2_isShut_57 ?_
                refine lv_istore (lv' := [(7, .int (nI (y - (sL z j)))), (6, .int (nI 1)), (5, .ref (o + 8 + j)), (0, .ref o), (1, .int (nI u)), (2, .int ch), (3, .int (nI y)), (4, .int (nI j))]) hx hb dX2_isShut_58 hl (by decide) rfl (fun ls hl => ?_)
                refine lv_iload hx hb dX2_isShut_60 (lv_at hl 1 rfl) ?_
                refine r_ifeqN hx hb (by omega) dX2_isShut_62 (tgt := 81) (by decide) (fun c8 => absurd c8 (by decide)) (fun _ => ?_)
                refine lv_iload hx hb dX2_isShut_65 (lv_at hl 0 rfl) ?_
                refine lv_if_lt (tgt := 81) hx hb dX2_isShut_67 (by decide) (fun c5 => absurd c5 (nI_pos (by omega))) (fun _ => ?_)
                refine lv_iload hx hb dX2_isShut_70 (lv_at hl 0 rfl) ?_
                refine lv_aload hx hb dX2_isShut_72 (lv_at hl 2 rfl) ?_
                refine lv_iconst (v := nI 3) hx hb dX2_isShut_74 (by decide) ?_
                refine r_iald hx hb hK hg rfl 3 (by omega) (by decide) (v := nI (sM z j)) s3 dX2_isShut_75 ?_
                refine r_geN hx hb (by omega) (by omega) dX2_isShut_76 (tgt := 81) (by decide) (fun c6 => ?_) (fun c6 => ?_)
                · refine lv_iinc (v := nI (j + 1)) (lv' := [(4, .int (nI (j + 1))), (7, .int (nI (y - (sL z j)))), (6, .int (nI 1)), (5, .ref (o + 8 + j)), (0, .ref o), (1, .int (nI u)), (2, .int ch), (3, .int (nI y))]) hx hb dX2_isShut_81 hl (k := 7) rfl (nI_1 _) (by decide) rfl (fun ls hl => ?_)
                  refine lv_goto (tgt := 3) hx hb dX2_isShut_84 (by decide) ?_
                  exact ih3 (j + 1) c1 (shB_no hd (sh_no hsf (fun q => by obtain ⟨q1, q2, q3, q4⟩ := q; first | exact c2 q1 | (rcases q2 with q2 | q2; exact c3 q2; exact c4 q2) | omega))) (by omega) ls (lv_sub hl [4, 5, 6, 7, 0] rfl)
                · refine lv_iconst (v := nI 1) hx hb dX2_isShut_79 (by decide) ?_
                  exact r_retZ (v := nI 1) hx hb hr hlocks true rfl (by rw [shB_mono (j := j + 1) (shB_yes (sh_yes hsf ⟨c2, by first | exact Or.inl c3 | exact Or.inr (c4), hw, by omega⟩)) c1]; rfl) dX2_isShut_80
  exact loop3 _ 0 (Nat.zero_le _) rfl (Nat.lt_succ_self _) ls (lv_sub hl [1, 2, 3, 4, 0] rfl)

set_option maxRecDepth 20000 in
theorem iiX2_place_2 : ∀ w ∈ wsX20, w ∈ wsX2_place := by decide +kernel
set_option maxHeartbeats 4000000 in
set_option maxRecDepth 100000 in
/-- where a user is at a slot -/
theorem c_X2_place (l : Launch) (G : va_G) (t : gT) (o : Nat) (z : Nat → Int32) (hz : WF z) (u y : Nat) (hu : u < cu z) (hy : y ≤ 5000) : Met l yX2_place wsX2_place ({ frames := 3, cells := 0, slots := 0, locals := 75 } : Room) (pc_ [.ref o, .int (nI u), .int (nI y)] (fun U H => KK G t U ∧ Sc G t o z H)) (vp_Si (fun r => r = plC z u y)) 0 0 (fun _ => False) := by
  refine Met.ofW (cc := cX2_place) (maxL := 5) (ret := (some .int)) (by decide) rfl ?_
  intro p e s m args below meth c s₁ B hml hv
  obtain ⟨rfl, hB⟩ := hv
  have hx := B.exec
  have hb := B.bytes
  have hr := B.returns
  have hts := atoms_spec (ws := wsX2_place) B.pre
  have hown : s.vm.findClass RX2 = some m.cls := findClass_of_methodNamed B.named
  have hlocks := B.notSynchronized
  have hK := hB.1
  have hSc := hB.2
  have h0 := Sc_obj hSc
  have h1 := (Sc_rows hSc).1
  have h3 := (Sc_rows hSc).2
  have hn := hz.n
  have hu5 := hz.u5
  have hs8 := hz.s8
  have hp := prN_in (cn z)
  have b1 := (hz.us hu).2.2.2.1.2
  have hl := lv_entry ([.ref o, .int (nI u), .int (nI y)]) (n := 5) (Nat.le_of_ble_eq_true rfl)
  rw [lg_entry_eq]
  generalize (lg_sl ([.ref o, .int (nI u), .int (nI y)]) ++ List.replicate (5 - (lg_sl ([.ref o, .int (nI u), .int (nI y)])).length) Slot.unset).toArray = ls at hl ⊢
  have hl : lv_has ls 5 [(0, .ref o), (1, .int (nI u)), (2, .int (nI y))] := hl
  refine lv_aload_n hx hb dX2_place_0 rfl (lv_at hl 0 rfl) ?_
  refine lv_iload_n hx hb dX2_place_1 rfl (lv_at hl 1 rfl) ?_
  refine lv_iload_n hx hb dX2_place_2 rfl (lv_at hl 2 rfl) ?_
  refine r_cV (av := [.int (nI u), .int (nI y)]) (c_X2_clockOf l G t o z hz u y hu) ⟨hx, hb, hml, hown, hts⟩ (cwV 2 hts gX2_place_X2_clockOf rfl rfl rfl (by decide +kernel) ⟨Nat.le_of_ble_eq_true rfl, Nat.le_of_ble_eq_true rfl⟩) mv_K hB (at_recv hK h0 rfl) rfl hl (Nat.le_of_ble_eq_true rfl) ⟨Nat.le_of_ble_eq_true rfl, Nat.le_of_ble_eq_true rfl⟩ rfl dX2_place_3 (fun r1 hr1 => ?_)
  subst hr1
  rcases Nat.lt_or_ge y (uW z u) with hw | hw
  · refine lv_istore_n (lv' := [(3, .int (nI y - nI (uW z u))), (0, .ref o), (1, .int (nI u)), (2, .int (nI y))]) hx hb dX2_place_6 rfl hl (by decide) rfl (fun ls hl => ?_)
    refine lv_iload_n hx hb dX2_place_7 rfl (lv_at hl 0 rfl) ?_
    refine lv_if_ge (tgt := 13) hx hb dX2_place_8 (by decide) (fun c1 => ?_) (fun c1 => ?_)
    · exact (i_neg_ge (pk_sneg (by omega) hw) c1).elim
    · refine lv_iconst (v := (-1)) hx hb dX2_place_11 (by decide) ?_
      exact r_retS (v := (-1)) hx hb hr hlocks (plC_w hw).symm dX2_place_12
  · refine r_top (y := nI (y - uW z u)) (pk_sub hw) ?_
    refine lv_istore_n (lv' := [(3, .int (nI (y - uW z u))), (0, .ref o), (1, .int (nI u)), (2, .int (nI y))]) hx hb dX2_place_6 rfl hl (by decide) rfl (fun ls hl => ?_)
    refine lv_iload_n hx hb dX2_place_7 rfl (lv_at hl 0 rfl) ?_
    refine lv_if_ge (tgt := 13) hx hb dX2_place_8 (by decide) (fun _ => ?_) (fun c1 => absurd (nI_pos' (by omega)) c1)
    refine lv_aload_n hx hb dX2_place_13 rfl (lv_at hl 1 rfl) ?_
    refine lv_iload_n hx hb dX2_place_14 rfl (lv_at hl 2 rfl) ?_
    refine lv_iload_n hx hb dX2_place_15 rfl (lv_at hl 0 rfl) ?_
    refine r_cV (av := [.int (nI u), .int (nI (y - uW z u))]) (c_X2_placeByClock l G t o z hz u (y - uW z u) hu (by omega)) ⟨hx, hb, hml, hown, hts⟩ (cwV 2 hts gX2_place_X2_placeByClock rfl rfl rfl (by decide +kernel) ⟨Nat.le_of_ble_eq_true rfl, Nat.le_of_ble_eq_true rfl⟩) mv_K hB (at_recv hK h0 rfl) rfl hl (Nat.le_of_ble_eq_true rfl) ⟨Nat.le_of_ble_eq_true rfl, Nat.le_of_ble_eq_true rfl⟩ rfl dX2_place_16 (fun r2 hr2 => ?_)
    subst hr2
    refine lv_istore (lv' := [(4, .int (plN z u (y - uW z u))), (3, .int (nI (y - uW z u))), (0, .ref o), (1, .int (nI u)), (2, .int (nI y))]) hx hb dX2_place_19 hl (by decide) rfl (fun ls hl => ?_)
    refine lv_aload_n hx hb dX2_place_21 rfl (lv_at hl 2 rfl) ?_
    refine lv_iload_n hx hb dX2_place_22 rfl (lv_at hl 3 rfl) ?_
    refine lv_iload hx hb dX2_place_23 (lv_at hl 0 rfl) ?_
    refine lv_iload_n hx hb dX2_place_25 rfl (lv_at hl 4 rfl) ?_
    refine r_cV (av := [.int (nI u), .int (plN z u (y - uW z u)), .int (nI y)]) (c_X2_isShut l G t o z hz u y (plN z u (y - uW z u)) hu hy) ⟨hx, hb, hml, hown, hts⟩ (cwV 3 hts gX2_place_X2_isShut rfl rfl rfl (by decide +kernel) ⟨Nat.le_of_ble_eq_true rfl, Nat.le_of_ble_eq_true rfl⟩) mv_K hB (at_recv hK h0 rfl) rfl hl (Nat.le_of_ble_eq_true rfl) ⟨Nat.le_of_ble_eq_true rfl, Nat.le_of_ble_eq_true rfl⟩ rfl dX2_place_26 (fun r3 hr3 => ?_)
    subst hr3
    refine r_ifeqB hx hb dX2_place_29 (tgt := 36) (by decide) (fun c2 => ?_) (fun c2 => ?_)
    · refine lv_iload hx hb dX2_place_36 (lv_at hl 0 rfl) ?_
      exact r_retS (v := plN z u (y - uW z u)) hx hb hr hlocks (plC_2 hw c2).symm dX2_place_38
    · refine lv_iconst (v := (-1)) hx hb dX2_place_32 (by decide) ?_
      refine lv_goto (tgt := 38) hx hb dX2_place_33 (by decide) ?_
      exact r_retS (v := (-1)) hx hb hr hlocks (plC_1 hw c2).symm dX2_place_38

set_option maxRecDepth 20000 in
theorem iiX2_whyNowhere_2 : ∀ w ∈ wsX20, w ∈ wsX2_whyNowhere := by decide +kernel
set_option maxHeartbeats 4000000 in
set_option maxRecDepth 100000 in
/-- why a user is nowhere -/
theorem c_X2_whyNowhere (l : Launch) (G : va_G) (t : gT) (o : Nat) (z : Nat → Int32) (hz : WF z) (u y : Nat) (hu : u < cu z) (hy : y ≤ 5000) : Met l yX2_whyNowhere wsX2_whyNowhere ({ frames := 3, cells := 0, slots := 0, locals := 75 } : Room) (pc_ [.ref o, .int (nI u), .int (nI y)] (fun U H => KK G t U ∧ Sc G t o z H)) (vp_Si (fun r => r = whC z u y)) 0 0 (fun _ => False) := by
  refine Met.ofW (cc := cX2_whyNowhere) (maxL := 5) (ret := (some .int)) (by decide) rfl ?_
  intro p e s m args below meth c s₁ B hml hv
  obtain ⟨rfl, hB⟩ := hv
  have hx := B.exec
  have hb := B.bytes
  have hr := B.returns
  have hts := atoms_spec (ws := wsX2_whyNowhere) B.pre
  have hown : s.vm.findClass RX2 = some m.cls := findClass_of_methodNamed B.named
  have hlocks := B.notSynchronized
  have hK := hB.1
  have hSc := hB.2
  have h0 := Sc_obj hSc
  have h1 := (Sc_rows hSc).1
  have h3 := (Sc_rows hSc).2
  have hn := hz.n
  have hu5 := hz.u5
  have hs8 := hz.s8
  have hp := prN_in (cn z)
  have b1 := (hz.us hu).2.2.2.1.2
  have hl := lv_entry ([.ref o, .int (nI u), .int (nI y)]) (n := 5) (Nat.le_of_ble_eq_true rfl)
  rw [lg_entry_eq]
  generalize (lg_sl ([.ref o, .int (nI u), .int (nI y)]) ++ List.replicate (5 - (lg_sl ([.ref o, .int (nI u), .int (nI y)])).length) Slot.unset).toArray = ls at hl ⊢
  have hl : lv_has ls 5 [(0, .ref o), (1, .int (nI u)), (2, .int (nI y))] := hl
  refine lv_aload_n hx hb dX2_whyNowhere_0 rfl (lv_at hl 0 rfl) ?_
  refine lv_iload_n hx hb dX2_whyNowhere_1 rfl (lv_at hl 1 rfl) ?_
  refine lv_iload_n hx hb dX2_whyNowhere_2 rfl (lv_at hl 2 rfl) ?_
  refine r_cV (av := [.int (nI u), .int (nI y)]) (c_X2_clockOf l G t o z hz u y hu) ⟨hx, hb, hml, hown, hts⟩ (cwV 2 hts gX2_whyNowhere_X2_clockOf rfl rfl rfl (by decide +kernel) ⟨Nat.le_of_ble_eq_true rfl, Nat.le_of_ble_eq_true rfl⟩) mv_K hB (at_recv hK h0 rfl) rfl hl (Nat.le_of_ble_eq_true rfl) ⟨Nat.le_of_ble_eq_true rfl, Nat.le_of_ble_eq_true rfl⟩ rfl dX2_whyNowhere_3 (fun r1 hr1 => ?_)
  subst hr1
  rcases Nat.lt_or_ge y (uW z u) with hw | hw
  · refine lv_istore_n (lv' := [(3, .int (nI y - nI (uW z u))), (0, .ref o), (1, .int (nI u)), (2, .int (nI y))]) hx hb dX2_whyNowhere_6 rfl hl (by decide) rfl (fun ls hl => ?_)
    refine lv_iload_n hx hb dX2_whyNowhere_7 rfl (lv_at hl 0 rfl) ?_
    refine lv_if_ge (tgt := 13) hx hb dX2_whyNowhere_8 (by decide) (fun c1 => ?_) (fun c1 => ?_)
    · exact (i_neg_ge (pk_sneg (by omega) hw) c1).elim
    · refine lv_iconst (v := nI 1) hx hb dX2_whyNowhere_11 (by decide) ?_
      exact r_retS (v := nI 1) hx hb hr hlocks (whC_w hw).symm dX2_whyNowhere_12
  · refine r_top (y := nI (y - uW z u)) (pk_sub hw) ?_
    refine lv_istore_n (lv' := [(3, .int (nI (y - uW z u))), (0, .ref o), (1, .int (nI u)), (2, .int (nI y))]) hx hb dX2_whyNowhere_6 rfl hl (by decide) rfl (fun ls hl => ?_)
    refine lv_iload_n hx hb dX2_whyNowhere_7 rfl (lv_at hl 0 rfl) ?_
    refine lv_if_ge (tgt := 13) hx hb dX2_whyNowhere_8 (by decide) (fun _ => ?_) (fun c1 => absurd (nI_pos' (by omega)) c1)
    refine lv_aload_n hx hb dX2_whyNowhere_13 rfl (lv_at hl 1 rfl) ?_
    refine lv_iload_n hx hb dX2_whyNowhere_14 rfl (lv_at hl 2 rfl) ?_
    refine lv_iload_n hx hb dX2_whyNowhere_15 rfl (lv_at hl 0 rfl) ?_
    refine r_cV (av := [.int (nI u), .int (nI (y - uW z u))]) (c_X2_placeByClock l G t o z hz u (y - uW z u) hu (by omega)) ⟨hx, hb, hml, hown, hts⟩ (cwV 2 hts gX2_whyNowhere_X2_placeByClock rfl rfl rfl (by decide +kernel) ⟨Nat.le_of_ble_eq_true rfl, Nat.le_of_ble_eq_true rfl⟩) mv_K hB (at_recv hK h0 rfl) rfl hl (Nat.le_of_ble_eq_true rfl) ⟨Nat.le_of_ble_eq_true rfl, Nat.le_of_ble_eq_true rfl⟩ rfl dX2_whyNowhere_16 (fun r2 hr2 => ?_)
    subst hr2
    refine lv_istore (lv' := [(4, .int (plN z u (y - uW z u))), (3, .int (nI (y - uW z u))), (0, .ref o), (1, .int (nI u)), (2, .int (nI y))]) hx hb dX2_whyNowhere_19 hl (by decide) rfl (fun ls hl => ?_)
    refine lv_iload hx hb dX2_whyNowhere_21 (lv_at hl 0 rfl) ?_
    refine lv_iconst (v := (-1)) hx hb dX2_whyNowhere_23 (by decide) ?_
    refine lv_icmp_ne (tgt := 29) hx hb dX2_whyNowhere_24 (by decide) (fun c3 => ?_) (fun c3 => ?_)
    · refine lv_aload_n hx hb dX2_whyNowhere_29 rfl (lv_at hl 2 rfl) ?_
      refine lv_iload_n hx hb dX2_whyNowhere_30 rfl (lv_at hl 3 rfl) ?_
      refine lv_iload hx hb dX2_whyNowhere_31 (lv_at hl 0 rfl) ?_
      refine lv_iload_n hx hb dX2_whyNowhere_33 rfl (lv_at hl 4 rfl) ?_
      refine r_cV (av := [.int (nI u), .int (plN z u (y - uW z u)), .int (nI y)]) (c_X2_isShut l G t o z hz u y (plN z u (y - uW z u)) hu hy) ⟨hx, hb, hml, hown, hts⟩ (cwV 3 hts gX2_whyNowhere_X2_isShut rfl rfl rfl (by decide +kernel) ⟨Nat.le_of_ble_eq_true rfl, Nat.le_of_ble_eq_true rfl⟩) mv_K hB (at_recv hK h0 rfl) rfl hl (Nat.le_of_ble_eq_true rfl) ⟨Nat.le_of_ble_eq_true rfl, Nat.le_of_ble_eq_true rfl⟩ rfl dX2_whyNowhere_34 (fun r3 hr3 => ?_)
      subst hr3
      refine r_ifeqB hx hb dX2_whyNowhere_37 (tgt := 44) (by decide) (fun c2 => ?_) (fun c2 => ?_)
      · refine lv_iconst (v := nI 0) hx hb dX2_whyNowhere_44 (by decide) ?_
        exact r_retS (v := nI 0) hx hb hr hlocks (whC_2 hw (fun q => c3 ((plN_m1 hz hu).mpr q)) c2).symm dX2_whyNowhere_45
      · refine lv_iconst (v := nI 3) hx hb dX2_whyNowhere_40 (by decide) ?_
        refine lv_goto (tgt := 45) hx hb dX2_whyNowhere_41 (by decide) ?_
        exact r_retS (v := nI 3) hx hb hr hlocks (whC_1 hw (fun q => c3 ((plN_m1 hz hu).mpr q)) c2).symm dX2_whyNowhere_45
    · refine lv_iconst (v := nI 2) hx hb dX2_whyNowhere_27 (by decide) ?_
      exact r_retS (v := nI 2) hx hb hr hlocks (whC_0 hw ((plN_m1 hz hu).mp (c3))).symm dX2_whyNowhere_28

set_option maxRecDepth 20000 in
theorem iiX2_meet_2 : ∀ w ∈ wsX20, w ∈ wsX2_meet := by decide +kernel
set_option maxHeartbeats 4000000 in
set_option maxRecDepth 100000 in
/-- whether two meet in a slot -/
theorem c_X2_meet (l : Launch) (G : va_G) (t : gT) (o : Nat) (z : Nat → Int32) (hz : WF z) (u v y : Nat) (hu : u < cu z) (hv0 : v < cu z) (hy : y ≤ 5000) : Met l yX2_meet wsX2_meet ({ frames := 4, cells := 0, slots := 0, locals := 99 } : Room) (pc_ [.ref o, .int (nI u), .int (nI v), .int (nI y)] (fun U H => KK G t U ∧ Sc G t o z H)) (vp_Si (fun r => r = bI (meB z u v y))) 0 0 (fun _ => False) := by
  refine Met.ofW (cc := cX2_meet) (maxL := 5) (ret := (some .boolean)) (by decide) rfl ?_
  intro p e s m args below meth c s₁ B hml hv
  obtain ⟨rfl, hB⟩ := hv
  have hx := B.exec
  have hb := B.bytes
  have hr := B.returns
  have hts := atoms_spec (ws := wsX2_meet) B.pre
  have hown : s.vm.findClass RX2 = some m.cls := findClass_of_methodNamed B.named
  have hlocks := B.notSynchronized
  have hK := hB.1
  have hSc := hB.2
  have h0 := Sc_obj hSc
  have h1 := (Sc_rows hSc).1
  have h3 := (Sc_rows hSc).2
  have hn := hz.n
  have hu5 := hz.u5
  have hs8 := hz.s8
  have hp := prN_in (cn z)
  have hl := lv_entry ([.ref o, .int (nI u), .int (nI v), .int (nI y)]) (n := 5) (Nat.le_of_ble_eq_true rfl)
  rw [lg_entry_eq]
  generalize (lg_sl ([.ref o, .int (nI u), .int (nI v), .int (nI y)]) ++ List.replicate (5 - (lg_sl ([.ref o, .int (nI u), .int (nI v), .int (nI y)])).length) Slot.unset).toArray = ls at hl ⊢
  have hl : lv_has ls 5 [(0, .ref o), (1, .int (nI u)), (2, .int (nI v)), (3, .int (nI y))] := hl
  refine lv_aload_n hx hb dX2_meet_0 rfl (lv_at hl 0 rfl) ?_
  refine lv_iload_n hx hb dX2_meet_1 rfl (lv_at hl 1 rfl) ?_
  refine lv_iload_n hx hb dX2_meet_2 rfl (lv_at hl 3 rfl) ?_
  refine r_cV (av := [.int (nI u), .int (nI y)]) (c_X2_place l G t o z hz u y hu hy) ⟨hx, hb, hml, hown, hts⟩ (cwV 2 hts gX2_meet_X2_place rfl rfl rfl (by decide +kernel) ⟨Nat.le_of_ble_eq_true rfl, Nat.le_of_ble_eq_true rfl⟩) mv_K hB (at_recv hK h0 rfl) rfl hl (Nat.le_of_ble_eq_true rfl) ⟨Nat.le_of_ble_eq_true rfl, Nat.le_of_ble_eq_true rfl⟩ rfl dX2_meet_3 (fun r1 hr1 => ?_)
  subst hr1
  refine lv_istore (lv' := [(4, .int (plC z u y)), (0, .ref o), (1, .int (nI u)), (2, .int (nI v)), (3, .int (nI y))]) hx hb dX2_meet_6 hl (by decide) rfl (fun ls hl => ?_)
  refine lv_iload hx hb dX2_meet_8 (lv_at hl 0 rfl) ?_
  refine lv_iconst (v := (-1)) hx hb dX2_meet_10 (by decide) ?_
  refine lv_icmp_eq (tgt := 29) hx hb dX2_meet_11 (by decide) (fun c1 => ?_) (fun c1 => ?_)
  · refine lv_iconst (v := nI 0) hx hb dX2_meet_29 (by decide) ?_
    exact r_retZ (v := nI 0) hx hb hr hlocks false rfl (by rw [show meB z u v y = false from decide_eq_false (fun q => by first | exact q.1 c1 | exact c2 q.2)]; rfl) dX2_meet_30
  · refine lv_iload hx hb dX2_meet_14 (lv_at hl 0 rfl) ?_
    refine lv_aload_n hx hb dX2_meet_16 rfl (lv_at hl 1 rfl) ?_
    refine lv_iload_n hx hb dX2_meet_17 rfl (lv_at hl 3 rfl) ?_
    refine lv_iload_n hx hb dX2_meet_18 rfl (lv_at hl 4 rfl) ?_
    refine r_cV (av := [.int (nI v), .int (nI y)]) (c_X2_place l G t o z hz v y hv0 hy) ⟨hx, hb, hml, hown, hts⟩ (cwV 2 hts gX2_meet_X2_place rfl rfl rfl (by decide +kernel) ⟨Nat.le_of_ble_eq_true rfl, Nat.le_of_ble_eq_true rfl⟩) mv_K hB (at_recv hK h0 rfl) rfl hl (Nat.le_of_ble_eq_true rfl) ⟨Nat.le_of_ble_eq_true rfl, Nat.le_of_ble_eq_true rfl⟩ rfl dX2_meet_19 (fun r2 hr2 => ?_)
    subst hr2
    refine lv_icmp_ne (tgt := 29) hx hb dX2_meet_22 (by decide) (fun c2 => ?_) (fun c2 => ?_)
    · refine lv_iconst (v := nI 0) hx hb dX2_meet_29 (by decide) ?_
      exact r_retZ (v := nI 0) hx hb hr hlocks false rfl (by rw [show meB z u v y = false from decide_eq_false (fun q => by first | exact q.1 c1 | exact c2 q.2)]; rfl) dX2_meet_30
    · refine lv_iconst (v := nI 1) hx hb dX2_meet_25 (by decide) ?_
      refine lv_goto (tgt := 30) hx hb dX2_meet_26 (by decide) ?_
      exact r_retZ (v := nI 1) hx hb hr hlocks true rfl (by rw [show meB z u v y = true from decide_eq_true ⟨c1, c2⟩]; rfl) dX2_meet_30

set_option maxHeartbeats 4000000 in
set_option maxRecDepth 100000 in
/-- the next lot -/
theorem c_X2_nextLot (l : Launch) (G : va_G) (t : gT) (x : Nat) (hx0 : x < 2147483647) : Met l yX2_nextLot wsX2_nextLot ({ frames := 0, cells := 0, slots := 0, locals := 0 } : Room) (pc_ [.long (lN x)] (fun _ _ => True)) (vp_Sl (fun r => r = lN (x * 16807 % 2147483647))) 0 0 (fun _ => False) := by
  refine Met.ofW (cc := cX2_nextLot) (maxL := 2) (ret := (some .long)) (by decide) rfl ?_
  intro p e s m args below meth c s₁ B hml hv
  obtain ⟨rfl, hB⟩ := hv
  have hx := B.exec
  have hb := B.bytes
  have hr := B.returns
  have hts := atoms_spec (ws := wsX2_nextLot) B.pre
  have hown : s.vm.findClass RX2 = some m.cls := findClass_of_methodNamed B.named
  have hlocks := B.notSynchronized
  have hl := lv_entry ([.long (lN x)]) (n := 2) (Nat.le_of_ble_eq_true rfl)
  rw [lg_entry_eq]
  generalize (lg_sl ([.long (lN x)]) ++ List.replicate (2 - (lg_sl ([.long (lN x)])).length) Slot.unset).toArray = ls at hl ⊢
  have hl : lv_has ls 2 [(0, .long (lN x))] := hl
  refine lv_lload_n hx hb dX2_nextLot_0 rfl (lv_at hl 0 rfl) ?_
  refine lv_ldc2 (v := 16807) hx hb hown (hts (.constantLong RX2 95 (16807)) (List.mem_of_getElem? (i := 1) rfl)) dX2_nextLot_1 ?_
  refine r_topL (y := lN 16807) rfl ?_
  refine lv_lmul hx hb dX2_nextLot_4 ?_
  refine r_topL (y := lN (x * 16807)) (lN_mul x 16807) ?_
  refine lv_ldc2 (v := 2147483647) hx hb hown (hts (.constantLong RX2 97 (2147483647)) (List.mem_of_getElem? (i := 2) rfl)) dX2_nextLot_5 ?_
  refine r_topL (y := lN 2147483647) rfl ?_
  refine lv_lrem hx hb dX2_nextLot_8 (by decide) ?_
  refine r_topL (y := lN (x * 16807 % 2147483647)) (pk_lRem (by omega) (by decide) (by decide)) ?_
  exact r_retL (v := lN (x * 16807 % 2147483647)) hx hb hr hlocks rfl dX2_nextLot_9

set_option maxRecDepth 20000 in
theorem iiX2_commonChannels_2 : ∀ w ∈ wsX20, w ∈ wsX2_commonChannels := by decide +kernel
set_option maxHeartbeats 4000000 in
set_option maxRecDepth 100000 in
/-- the channels that are open to all -/
theorem c_X2_commonChannels (l : Launch) (G : va_G) (t : gT) (o : Nat) (z : Nat → Int32) (hz : WF z) : Met l yX2_commonChannels wsX2_commonChannels ({ frames := 1, cells := 0, slots := 0, locals := 20 } : Room) (pc_ [.ref o] (fun U H => KK G t U ∧ Sc G t o z H)) (vp_Si (fun r => r = nI (comN z (cu z)))) 0 0 (fun _ => False) := by
  refine Met.ofW (cc := cX2_commonChannels) (maxL := 3) (ret := (some .int)) (by decide) rfl ?_
  intro p e s m args below meth c s₁ B hml hv
  obtain ⟨rfl, hB⟩ := hv
  have hx := B.exec
  have hb := B.bytes
  have hr := B.returns
  have hts := atoms_spec (ws := wsX2_commonChannels) B.pre
  have hown : s.vm.findClass RX2 = some m.cls := findClass_of_methodNamed B.named
  have hlocks := B.notSynchronized
  have hK := hB.1
  have hSc := hB.2
  have h0 := Sc_obj hSc
  have h1 := (Sc_rows hSc).1
  have h3 := (Sc_rows hSc).2
  have hn := hz.n
  have hu5 := hz.u5
  have hs8 := hz.s8
  have hp := prN_in (cn z)
  have hl := lv_entry ([.ref o]) (n := 3) (Nat.le_of_ble_eq_true rfl)
  rw [lg_entry_eq]
  generalize (lg_sl ([.ref o]) ++ List.replicate (3 - (lg_sl ([.ref o])).length) Slot.unset).toArray = ls at hl ⊢
  have hl : lv_has ls 3 [(0, .ref o)] := hl
  refine lv_aload_n hx hb dX2_commonChannels_0 rfl (lv_at hl 0 rfl) ?_
  refine r_cV (av := []) (c_X2_allChannels l G t o z hz) ⟨hx, hb, hml, hown, hts⟩ (cwV 0 hts gX2_commonChannels_X2_allChannels rfl rfl rfl (by decide +kernel) ⟨Nat.le_of_ble_eq_true rfl, Nat.le_of_ble_eq_true rfl⟩) mv_K hB (at_recv hK h0 rfl) rfl hl (Nat.le_of_ble_eq_true rfl) ⟨Nat.le_of_ble_eq_true rfl, Nat.le_of_ble_eq_true rfl⟩ rfl dX2_commonChannels_1 (fun r1 hr1 => ?_)
  subst hr1
  refine lv_istore_n (lv' := [(1, .int (nI (2 ^ cn z - 1))), (0, .ref o)]) hx hb dX2_commonChannels_4 rfl hl (by decide) rfl (fun ls hl => ?_)
  refine lv_iconst (v := nI 0) hx hb dX2_commonChannels_5 (by decide) ?_
  refine lv_istore_n (lv' := [(2, .int (nI 0)), (1, .int (nI (2 ^ cn z - 1))), (0, .ref o)]) hx hb dX2_commonChannels_6 rfl hl (by decide) rfl (fun ls hl => ?_)
  have loop7 : ∀ (fu : Nat) (j : Nat) (hj : j ≤ cu z) (hfu : cu z - j < fu) (ls : Array Slot) (hl : lv_has ls 3 [(0, .ref o), (1, .int (nI (comN z j))), (2, .int (nI j))]), W p l e (headSpec wsX2_commonChannels ({ frames := 1, cells := 0, slots := 0, locals := 20 } : Room)).room s m ([.ref o] : List Value).toArray below meth c s.heap [] 0 0 (MQ below (vp_Si (fun r => r = nI (comN z (cu z)))) ([.ref o] : List Value).toArray s 0 0 (fun _ => False)) (F0 m 7 ls []) := by
    intro fu
    induction fu with
    | zero => intro j hj hfu; exact absurd hfu (Nat.not_lt_zero _)
    | succ fu7 ih7 =>
      intro j hj hfu ls hl
      refine lv_iload_n hx hb dX2_commonChannels_7 rfl (lv_at hl 2 rfl) ?_
      refine lv_aload_n hx hb dX2_commonChannels_8 rfl (lv_at hl 0 rfl) ?_
      refine r_get (C := RX2) (T := TX2) (N := 6) hx hb hts iiX2_commonChannels_2 hown hK h0 rfl 2 (by decide) (hts (.fieldLink RX2 34 "HopMeet$Scene" "userCount" "I") (List.mem_of_getElem? (i := 1) rfl)) rfl dX2_commonChannels_9 ?_
      refine r_geN hx hb (by omega) (by omega) dX2_commonChannels_12 (tgt := 32) (by decide) (fun c1 => ?_) (fun c1 => ?_)
      · refine lv_iload_n hx hb dX2_commonChannels_32 rfl (lv_at hl 1 rfl) ?_
        exact r_retS (v := nI (comN z j)) hx hb hr hlocks (by rw [show cu z = j by omega]) dX2_commonChannels_33
      · obtain ⟨fu, hf, e0, e1, e2, e3, e4⟩ := Sc_user hSc hz c1
        refine lv_iload_n hx hb dX2_commonChannels_15 rfl (lv_at hl 1 rfl) ?_
        refine lv_aload_n hx hb dX2_commonChannels_16 rfl (lv_at hl 0 rfl) ?_
        refine r_get (C := RX2) (T := TX2) (N := 6) hx hb hts iiX2_commonChannels_2 hown hK h0 rfl 4 (by decide) (hts (.fieldLink RX2 11 "HopMeet$Scene" "users" "[[I") (List.mem_of_getElem? (i := 2) rfl)) rfl dX2_commonChannels_17 ?_
        refine lv_iload_n hx hb dX2_commonChannels_20 rfl (lv_at hl 2 rfl) ?_
        refine r_rald hx hb hK h1 1 rfl rfl j (by omega) (by decide) (b := o + 2 + j) (rowsF_at (by omega)) dX2_commonChannels_21 ?_
        refine lv_iconst (v := nI 4) hx hb dX2_commonChannels_22 (by decide) ?_
        refine r_iald hx hb hK hf rfl 4 (by omega) (by decide) (v := nI (uO z j)) e4 dX2_commonChannels_23 ?_
        refine r_iandN hx hb dX2_commonChannels_24 ?_
        refine lv_istore_n (lv' := [(1, .int (nI ((comN z j) &&& (uO z j)))), (0, .ref o), (2, .int (nI j))]) hx hb dX2_commonChannels_25 rfl hl (by decide) rfl (fun ls hl => ?_)
        refine lv_iinc (v := nI (j + 1)) (lv' := [(2, .int (nI (j + 1))), (1, .int (nI ((comN z j) &&& (uO z j)))), (0, .ref o)]) hx hb dX2_commonChannels_26 hl (k := 2) rfl (nI_1 _) (by decide) rfl (fun ls hl => ?_)
        refine lv_goto (tgt := 7) hx hb dX2_commonChannels_29 (by decide) ?_
        exact ih7 (j + 1) c1 (by omega) ls (lv_sub hl [2, 1, 0] rfl)
  exact loop7 _ 0 (Nat.zero_le _) (Nat.lt_succ_self _) ls (lv_sub hl [2, 1, 0] rfl)
end
section
/-! the reference: its picture for what reads alone, and small rows -/
def Mn (G : va_G) (t : gT) (d : Nat) (z : Nat → Int32) (H : Heap) : Prop := ∃ (bc sl : Int32) (lo : Int64), at_ G d (.inr (4, [.ref (d + 1), .int bc, .ref (d + 2), .ref (d + 3), .ref (d + 4), .int sl, .int (nI (prN (cn z))), .ref (d + 5), .ref (d + 6), .long lo])) H ∧ at_ G (d + 1) (aI t 60 z) H
def inB (v a b : Int32) : Bool := decide (a ≤ v ∧ v ≤ b)
theorem in_t {v a b : Int32} (h : ¬ v < a) (h2 : ¬ b < v) : inB v a b = true := decide_eq_true ⟨Int32.not_lt.mp h, Int32.not_lt.mp h2⟩
theorem in_f1 {v a b : Int32} (h : v < a) : inB v a b = false := decide_eq_false (fun q => Int32.not_lt.mpr q.1 h)
theorem in_f2 {v a b : Int32} (h : b < v) : inB v a b = false := decide_eq_false (fun q => Int32.not_lt.mpr q.2 h)
theorem inB_N {v a b : Nat} (hv : v < 2 ^ 31) (ha : a < 2 ^ 31) (hb : b < 2 ^ 31) : inB (nI v) (nI a) (nI b) = decide (a ≤ v ∧ v ≤ b) := by
  unfold inB
  rw [decide_eq_decide, nI_leI ha hv, nI_leI hv hb]
def prU (n k : Nat) : Bool := decide (∀ d, d < k → 2 ≤ d → n % d ≠ 0)
theorem prU_2 {n : Nat} : prU n 2 = true := decide_eq_true (fun d h1 h2 => absurd h1 (by omega))
theorem prU_yes {n k : Nat} (h2 : prU n k = true) (h3 : ¬ n % k = 0) : prU n (k + 1) = true := decide_eq_true (fun d h4 h5 => by
  rcases Nat.lt_succ_iff_lt_or_eq.mp h4 with h | h
  · exact of_decide_eq_true h2 d h h5
  · rw [h]; exact h3)
theorem prU_no {n k : Nat} (h2 : prU n k = false) : prU n (k + 1) = false := decide_eq_false (fun q => of_decide_eq_false h2 (fun d h4 h5 => q d (by omega) h5))
theorem prU_no2 {n k : Nat} (hk : 2 ≤ k) (h3 : n % k = 0) : prU n (k + 1) = false := decide_eq_false (fun q => q k (by omega) hk h3)
theorem prU_end {n k : Nat} (h : n ≤ k) (h2 : k = 2 ∨ k ≤ n) : prU n k = prB n := by
  unfold prU prB
  rw [decide_eq_decide]
  constructor
  · intro q d h4 h5; exact q d (by omega) h5
  · intro q d h4 h5
    rcases h2 with rfl | h2
    · omega
    · exact q d (by omega) h5
/-- a number that names a user -/
def usB (z : Nat → Int32) (u : Int32) : Bool := decide (0 ≤ u ∧ u < nI (cu z))
theorem usB_t {z : Nat → Int32} {u : Int32} (hz : WF z) (h : usB z u = true) : ∃ k, k < cu z ∧ u = nI k := by
  obtain ⟨h1, h2⟩ := of_decide_eq_true h
  have h5 := hz.u5
  obtain ⟨k, hk, rfl⟩ := nI_of (x := u) (fun q => i_neg_ge q h1)
  exact ⟨k, (nI_ltI hk (by omega)).mp h2, rfl⟩
theorem usB_N {z : Nat → Int32} (hz : WF z) {k : Nat} (hk : k < cu z) : usB z (nI k) = true := by
  have h5 := hz.u5
  exact decide_eq_true ⟨nI_pos' (by omega), (nI_ltI (by omega) (by omega)).mpr hk⟩
theorem usB_in {z : Nat → Int32} (hz : WF z) (u : Int32) : inB u (nI 0) (nI (cu z) - nI 1) = usB z u := by
  have h5 := hz.u5
  unfold inB usB
  rw [decide_eq_decide]
  have e0 : (nI 0).toInt = 0 := nI_toInt (by decide)
  have e1 : (nI (cu z)).toInt = (cu z : Int) := nI_toInt (by omega)
  have e2 : (nI (cu z) - nI 1).toInt = (cu z : Int) - (1 : Nat) := pk_sub_toInt (by omega) (by omega)
  have e3 : (0 : Int32).toInt = 0 := Int32.toInt_zero
  rw [Int32.le_iff_toInt_le, Int32.le_iff_toInt_le, Int32.le_iff_toInt_le, Int32.lt_iff_toInt_lt, e0, e1, e2, e3]
  omega
def twB (z : Nat → Int32) (u v : Int32) : Bool := usB z u && (usB z v && decide (u ≠ v))
theorem twB_t {z : Nat → Int32} {u v : Int32} (hz : WF z) (h : twB z u v = true) : ∃ a b, a < cu z ∧ b < cu z ∧ u = nI a ∧ v = nI b := by
  unfold twB at h
  rw [Bool.and_eq_true, Bool.and_eq_true] at h
  obtain ⟨a, ha, e1⟩ := usB_t hz h.1
  obtain ⟨b, hb, e2⟩ := usB_t hz h.2.1
  exact ⟨a, b, ha, hb, e1, e2⟩
theorem tw_y {z : Nat → Int32} {u v : Int32} (h1 : usB z u = true) (h2 : usB z v = true) (h3 : ¬ u = v) : twB z u v = true := by
  unfold twB
  rw [h1, h2, decide_eq_true h3]; rfl
theorem tw_n1 {z : Nat → Int32} {u v : Int32} (h1 : usB z u = false) : twB z u v = false := by
  unfold twB
  rw [h1]; rfl
theorem tw_n2 {z : Nat → Int32} {u v : Int32} (h2 : usB z v = false) : twB z u v = false := by
  unfold twB
  rw [h2, Bool.false_and, Bool.and_false]
theorem tw_n3 {z : Nat → Int32} {u v : Int32} (h3 : u = v) : twB z u v = false := by
  unfold twB
  rw [decide_eq_false (fun q => q h3), Bool.and_false, Bool.and_false]
theorem whC_z {z : Nat → Int32} {u t : Nat} (h : whC z u t = 0) : uW z u ≤ t ∧ ¬ uO z u = 0 ∧ shB z u (plN z u (t - uW z u)) t (cs z) = false := by
  unfold whC at h
  split at h
  · exact absurd h (by decide)
  next h1 =>
    split at h
    · exact absurd h (by decide)
    next h2 =>
      split at h
      · exact absurd h (by decide)
      next h3 => exact ⟨Nat.not_lt.mp h1, h2, by simpa using h3⟩
theorem whC_nz {z : Nat → Int32} {u t : Nat} (h : ¬ whC z u t = 0) : plC z u t = -1 := by
  unfold whC at h
  unfold plC
  split
  · rfl
  next h1 =>
    rw [if_neg h1] at h
    split
    · rfl
    next h2 =>
      rw [if_neg h2] at h
      split
      · rfl
      next h3 =>
        rw [if_neg h3] at h
        exact absurd rfl h
def ibB (w : Int32) (v : Int32) : Bool := inB v (nI 0) (if w = 0 then nI 3 else if w = nI 3 then nI 200 else nI 99)
end
section
/-! the reference: what reads alone (printed by wip/whole/m2.py) -/
set_option maxHeartbeats 4000000 in
set_option maxRecDepth 100000 in
/-- within bounds -/
theorem c_X4_in (l : Launch) (G : va_G) (t : gT) (v a b : Int32) : Met l yX4_in wsX4_in ({ frames := 0, cells := 0, slots := 0, locals := 0 } : Room) (pc_ [.int v, .int a, .int b] (fun _ _ => True)) (vp_Si (fun r => r = bI (inB v a b))) 0 0 (fun _ => False) := by
  refine Met.ofW (cc := cX4_in) (maxL := 3) (ret := (some .boolean)) (by decide) rfl ?_
  intro p e s m args below meth c s₁ B hml hv
  obtain ⟨rfl, hB⟩ := hv
  have hx := B.exec
  have hb := B.bytes
  have hr := B.returns
  have hts := atoms_spec (ws := wsX4_in) B.pre
  have hown : s.vm.findClass RX4 = some m.cls := findClass_of_methodNamed B.named
  have hlocks := B.notSynchronized
  have hl := lv_entry ([.int v, .int a, .int b]) (n := 3) (Nat.le_of_ble_eq_true rfl)
  rw [lg_entry_eq]
  generalize (lg_sl ([.int v, .int a, .int b]) ++ List.replicate (3 - (lg_sl ([.int v, .int a, .int b])).length) Slot.unset).toArray = ls at hl ⊢
  have hl : lv_has ls 3 [(0, .int v), (1, .int a), (2, .int b)] := hl
  refine lv_iload_n hx hb dX4_in_0 rfl (lv_at hl 0 rfl) ?_
  refine lv_iload_n hx hb dX4_in_1 rfl (lv_at hl 1 rfl) ?_
  refine lv_icmp_lt (tgt := 14) hx hb dX4_in_2 (by decide) (fun c1 => ?_) (fun c1 => ?_)
  · refine lv_iconst (v := nI 0) hx hb dX4_in_14 (by decide) ?_
    exact r_retZ (v := nI 0) hx hb hr hlocks false rfl (by first | (rw [in_f1 c1]; rfl) | (rw [in_f2 c2]; rfl)) dX4_in_15
  · refine lv_iload_n hx hb dX4_in_5 rfl (lv_at hl 0 rfl) ?_
    refine lv_iload_n hx hb dX4_in_6 rfl (lv_at hl 2 rfl) ?_
    refine lv_icmp_gt (tgt := 14) hx hb dX4_in_7 (by decide) (fun c2 => ?_) (fun c2 => ?_)
    · refine lv_iconst (v := nI 0) hx hb dX4_in_14 (by decide) ?_
      exact r_retZ (v := nI 0) hx hb hr hlocks false rfl (by first | (rw [in_f1 c1]; rfl) | (rw [in_f2 c2]; rfl)) dX4_in_15
    · refine lv_iconst (v := nI 1) hx hb dX4_in_10 (by decide) ?_
      refine lv_goto (tgt := 15) hx hb dX4_in_11 (by decide) ?_
      exact r_retZ (v := nI 1) hx hb hr hlocks true rfl (by rw [in_t c1 c2]; rfl) dX4_in_15

set_option maxHeartbeats 4000000 in
set_option maxRecDepth 100000 in
/-- whether n is a prime -/
theorem c_X4_isPrime (l : Launch) (G : va_G) (t : gT) (n : Nat) (hn : n < 100) : Met l yX4_isPrime wsX4_isPrime ({ frames := 0, cells := 0, slots := 0, locals := 0 } : Room) (pc_ [.int (nI n)] (fun _ _ => True)) (vp_Si (fun r => r = bI (prB n))) 0 0 (fun _ => False) := by
  refine Met.ofW (cc := cX4_isPrime) (maxL := 3) (ret := (some .boolean)) (by decide) rfl ?_
  intro p e s m args below meth c s₁ B hml hv
  obtain ⟨rfl, hB⟩ := hv
  have hx := B.exec
  have hb := B.bytes
  have hr := B.returns
  have hts := atoms_spec (ws := wsX4_isPrime) B.pre
  have hown : s.vm.findClass RX4 = some m.cls := findClass_of_methodNamed B.named
  have hlocks := B.notSynchronized
  have hl := lv_entry ([.int (nI n)]) (n := 3) (Nat.le_of_ble_eq_true rfl)
  rw [lg_entry_eq]
  generalize (lg_sl ([.int (nI n)]) ++ List.replicate (3 - (lg_sl ([.int (nI n)])).length) Slot.unset).toArray = ls at hl ⊢
  have hl : lv_has ls 3 [(0, .int (nI n))] := hl
  refine lv_iconst (v := nI 1) hx hb dX4_isPrime_0 (by decide) ?_
  refine r_top (y := bI (prU n 2)) (by rw [prU_2]; rfl) ?_
  refine lv_istore_n (lv' := [(1, .int (bI (prU n 2))), (0, .int (nI n))]) hx hb dX4_isPrime_1 rfl hl (by decide) rfl (fun ls hl => ?_)
  refine lv_iconst (v := nI 2) hx hb dX4_isPrime_2 (by decide) ?_
  refine lv_istore_n (lv' := [(2, .int (nI 2)), (1, .int (bI (prU n 2))), (0, .int (nI n))]) hx hb dX4_isPrime_3 rfl hl (by decide) rfl (fun ls hl => ?_)
  have loop4 : ∀ (fu : Nat) (k : Nat) (hk : 2 ≤ k) (hk3 : k ≤ 100) (hk4 : k = 2 ∨ k ≤ n) (hfu : 100 - k < fu) (ls : Array Slot) (hl : lv_has ls 3 [(0, .int (nI n)), (1, .int (bI (prU n k))), (2, .int (nI k))]), W p l e (headSpec wsX4_isPrime ({ frames := 0, cells := 0, slots := 0, locals := 0 } : Room)).room s m ([.int (nI n)] : List Value).toArray below meth c s.heap [] 0 0 (MQ below (vp_Si (fun r => r = bI (prB n))) ([.int (nI n)] : List Value).toArray s 0 0 (fun _ => False)) (F0 m 4 ls []) := by
    intro fu
    induction fu with
    | zero => intro k hk hk3 hk4 hfu; exact absurd hfu (Nat.not_lt_zero _)
    | succ fu4 ih4 =>
      intro k hk hk3 hk4 hfu ls hl
      refine lv_iload_n hx hb dX4_isPrime_4 rfl (lv_at hl 2 rfl) ?_
      refine lv_iload_n hx hb dX4_isPrime_5 rfl (lv_at hl 0 rfl) ?_
      refine r_geN hx hb (by omega) (by omega) dX4_isPrime_6 (tgt := 31) (by decide) (fun c1 => ?_) (fun c1 => ?_)
      · refine lv_iload_n hx hb dX4_isPrime_31 rfl (lv_at hl 1 rfl) ?_
        exact r_retZ (v := bI (prU n k)) hx hb hr hlocks (prU n k) rfl (by rw [prU_end c1 hk4]) dX4_isPrime_32
      · refine lv_iload_n hx hb dX4_isPrime_9 rfl (lv_at hl 1 rfl) ?_
        refine r_ifeqB hx hb dX4_isPrime_10 (tgt := 23) (by decide) (fun c2 => ?_) (fun c2 => ?_)
        · refine lv_iconst (v := nI 0) hx hb dX4_isPrime_23 (by decide) ?_
          refine r_top (y := bI (prU n (k + 1))) (by first | (rw [prU_no c2]; rfl) | (rw [prU_no2 hk c3]; rfl)) ?_
          refine lv_istore_n (lv' := [(1, .int (bI (prU n (k + 1)))), (0, .int (nI n)), (2, .int (nI k))]) hx hb dX4_isPrime_24 rfl hl (by decide) rfl (fun ls hl => ?_)
          refine lv_iinc (v := nI (k + 1)) (lv' := [(2, .int (nI (k + 1))), (1, .int (bI (prU n (k + 1)))), (0, .int (nI n))]) hx hb dX4_isPrime_25 hl (k := 2) rfl (nI_1 _) (by decide) rfl (fun ls hl => ?_)
          refine lv_goto (tgt := 4) hx hb dX4_isPrime_28 (by decide) ?_
          exact ih4 (k + 1) (by omega) (by omega) (Or.inr c1) (by omega) ls (lv_sub hl [2, 1, 0] rfl)
        · refine lv_iload_n hx hb dX4_isPrime_13 rfl (lv_at hl 0 rfl) ?_
          refine lv_iload_n hx hb dX4_isPrime_14 rfl (lv_at hl 2 rfl) ?_
          refine r_iremN hx hb (by omega) (by omega) (by omega) dX4_isPrime_15 ?_
          refine r_ifeqN hx hb (Nat.lt_of_le_of_lt (Nat.mod_le _ _) (by omega)) dX4_isPrime_16 (tgt := 23) (by decide) (fun c3 => ?_) (fun c3 => ?_)
          · refine lv_iconst (v := nI 0) hx hb dX4_isPrime_23 (by decide) ?_
            refine r_top (y := bI (prU n (k + 1))) (by first | (rw [prU_no c2]; rfl) | (rw [prU_no2 hk c3]; rfl)) ?_
            refine lv_istore_n (lv' := [(1, .int (bI (prU n (k + 1)))), (0, .int (nI n)), (2, .int (nI k))]) hx hb dX4_isPrime_24 rfl hl (by decide) rfl (fun ls hl => ?_)
            refine lv_iinc (v := nI (k + 1)) (lv' := [(2, .int (nI (k + 1))), (1, .int (bI (prU n (k + 1)))), (0, .int (nI n))]) hx hb dX4_isPrime_25 hl (k := 2) rfl (nI_1 _) (by decide) rfl (fun ls hl => ?_)
            refine lv_goto (tgt := 4) hx hb dX4_isPrime_28 (by decide) ?_
            exact ih4 (k + 1) (by omega) (by omega) (Or.inr c1) (by omega) ls (lv_sub hl [2, 1, 0] rfl)
          · refine lv_iconst (v := nI 1) hx hb dX4_isPrime_19 (by decide) ?_
            refine lv_goto (tgt := 24) hx hb dX4_isPrime_20 (by decide) ?_
            refine r_top (y := bI (prU n (k + 1))) (by rw [prU_yes c2 c3]; rfl) ?_
            refine lv_istore_n (lv' := [(1, .int (bI (prU n (k + 1)))), (0, .int (nI n)), (2, .int (nI k))]) hx hb dX4_isPrime_24 rfl hl (by decide) rfl (fun ls hl => ?_)
            refine lv_iinc (v := nI (k + 1)) (lv' := [(2, .int (nI (k + 1))), (1, .int (bI (prU n (k + 1)))), (0, .int (nI n))]) hx hb dX4_isPrime_25 hl (k := 2) rfl (nI_1 _) (by decide) rfl (fun ls hl => ?_)
            refine lv_goto (tgt := 4) hx hb dX4_isPrime_28 (by decide) ?_
            exact ih4 (k + 1) (by omega) (by omega) (Or.inr c1) (by omega) ls (lv_sub hl [2, 1, 0] rfl)
  exact loop4 _ 2 (Nat.le_refl _) (by decide) (Or.inl rfl) (Nat.lt_succ_self _) ls (lv_sub hl [2, 1, 0] rfl)

set_option maxRecDepth 20000 in
theorem iiX4_all_4 : ∀ w ∈ wsX40, w ∈ wsX4_all := by decide +kernel
set_option maxHeartbeats 4000000 in
set_option maxRecDepth 100000 in
/-- the set of all channels -/
theorem c_X4_all (l : Launch) (G : va_G) (t : gT) (d : Nat) (z : Nat → Int32) (hz : WF z) : Met l yX4_all wsX4_all ({ frames := 0, cells := 0, slots := 0, locals := 0 } : Room) (pc_ [.ref d] (fun U H => KK G t U ∧ Mn G t d z H)) (vp_Si (fun r => r = nI (2 ^ cn z - 1))) 0 0 (fun _ => False) := by
  refine Met.ofW (cc := cX4_all) (maxL := 1) (ret := (some .int)) (by decide) rfl ?_
  intro p e s m args below meth c s₁ B hml hv
  obtain ⟨rfl, hB⟩ := hv
  have hx := B.exec
  have hb := B.bytes
  have hr := B.returns
  have hts := atoms_spec (ws := wsX4_all) B.pre
  have hown : s.vm.findClass RX4 = some m.cls := findClass_of_methodNamed B.named
  have hlocks := B.notSynchronized
  have hK := hB.1
  obtain ⟨bc, sl, lo, h0, h1⟩ := hB.2
  have hn := hz.n
  have hu5 := hz.u5
  have hs8 := hz.s8
  have hp := prN_in (cn z)
  have hl := lv_entry ([.ref d]) (n := 1) (Nat.le_of_ble_eq_true rfl)
  rw [lg_entry_eq]
  generalize (lg_sl ([.ref d]) ++ List.replicate (1 - (lg_sl ([.ref d])).length) Slot.unset).toArray = ls at hl ⊢
  have hl : lv_has ls 1 [(0, .ref d)] := hl
  refine lv_iconst (v := nI 1) hx hb dX4_all_0 (by decide) ?_
  refine lv_aload_n hx hb dX4_all_1 rfl (lv_at hl 0 rfl) ?_
  refine r_get (C := RX4) (T := TX4) (N := 10) hx hb hts iiX4_all_4 hown hK h0 rfl 0 (by decide) (hts (.fieldLink RX4 7 "HopMeetModel" "now" "[I") (List.mem_of_getElem? (i := 1) rfl)) rfl dX4_all_2 ?_
  refine lv_iconst (v := nI 0) hx hb dX4_all_5 (by decide) ?_
  refine r_iald hx hb hK h1 rfl 0 (by omega) (by decide) (v := nI (cn z)) hz.1.1 dX4_all_6 ?_
  refine lv_ishl hx hb dX4_all_7 ?_
  refine r_top (y := nI (2 ^ cn z)) (i_shl1 hn.2) ?_
  refine lv_iconst (v := nI 1) hx hb dX4_all_8 (by decide) ?_
  refine r_isubN hx hb (Nat.one_le_two_pow) dX4_all_9 ?_
  exact r_retS (v := nI ((2 ^ cn z) - 1)) hx hb hr hlocks rfl dX4_all_10

set_option maxRecDepth 20000 in
theorem iiX4_of_4 : ∀ w ∈ wsX40, w ∈ wsX4_of := by decide +kernel
set_option maxHeartbeats 4000000 in
set_option maxRecDepth 100000 in
/-- what a user has -/
theorem c_X4_of (l : Launch) (G : va_G) (t : gT) (d : Nat) (z : Nat → Int32) (hz : WF z) (u w : Nat) (hu : u < 5) (hw : w < 5) : Met l yX4_of wsX4_of ({ frames := 0, cells := 0, slots := 0, locals := 0 } : Room) (pc_ [.ref d, .int (nI u), .int (nI w)] (fun U H => KK G t U ∧ Mn G t d z H)) (vp_Si (fun r => r = z (3 + 5 * u + w))) 0 0 (fun _ => False) := by
  refine Met.ofW (cc := cX4_of) (maxL := 3) (ret := (some .int)) (by decide) rfl ?_
  intro p e s m args below meth c s₁ B hml hv
  obtain ⟨rfl, hB⟩ := hv
  have hx := B.exec
  have hb := B.bytes
  have hr := B.returns
  have hts := atoms_spec (ws := wsX4_of) B.pre
  have hown : s.vm.findClass RX4 = some m.cls := findClass_of_methodNamed B.named
  have hlocks := B.notSynchronized
  have hK := hB.1
  obtain ⟨bc, sl, lo, h0, h1⟩ := hB.2
  have hn := hz.n
  have hu5 := hz.u5
  have hs8 := hz.s8
  have hp := prN_in (cn z)
  have hl := lv_entry ([.ref d, .int (nI u), .int (nI w)]) (n := 3) (Nat.le_of_ble_eq_true rfl)
  rw [lg_entry_eq]
  generalize (lg_sl ([.ref d, .int (nI u), .int (nI w)]) ++ List.replicate (3 - (lg_sl ([.ref d, .int (nI u), .int (nI w)])).length) Slot.unset).toArray = ls at hl ⊢
  have hl : lv_has ls 3 [(0, .ref d), (1, .int (nI u)), (2, .int (nI w))] := hl
  refine lv_aload_n hx hb dX4_of_0 rfl (lv_at hl 0 rfl) ?_
  refine r_get (C := RX4) (T := TX4) (N := 10) hx hb hts iiX4_of_4 hown hK h0 rfl 0 (by decide) (hts (.fieldLink RX4 7 "HopMeetModel" "now" "[I") (List.mem_of_getElem? (i := 1) rfl)) rfl dX4_of_1 ?_
  refine lv_iconst (v := nI 3) hx hb dX4_of_4 (by decide) ?_
  refine lv_iconst (v := nI 5) hx hb dX4_of_5 (by decide) ?_
  refine lv_iload_n hx hb dX4_of_6 rfl (lv_at hl 1 rfl) ?_
  refine r_imulN hx hb dX4_of_7 ?_
  refine r_iaddN hx hb dX4_of_8 ?_
  refine lv_iload_n hx hb dX4_of_9 rfl (lv_at hl 2 rfl) ?_
  refine r_iaddN hx hb dX4_of_10 ?_
  refine r_iald hx hb hK h1 rfl ((3 + (5 * u)) + w) (by omega) (by decide) (v := z ((3 + (5 * u)) + w)) rfl dX4_of_11 ?_
  exact r_retS (v := z ((3 + (5 * u)) + w)) hx hb hr hlocks rfl dX4_of_12

set_option maxRecDepth 20000 in
theorem iiX4_points_4 : ∀ w ∈ wsX40, w ∈ wsX4_points := by decide +kernel
set_option maxHeartbeats 4000000 in
set_option maxRecDepth 100000 in
/-- where a row points -/
theorem c_X4_points (l : Launch) (G : va_G) (t : gT) (d : Nat) (z : Nat → Int32) (hz : WF z) (u c0 : Nat) (hu : u < cu z) (hc : c0 ≤ 5000) : Met l yX4_points wsX4_points ({ frames := 1, cells := 0, slots := 0, locals := 22 } : Room) (pc_ [.ref d, .int (nI u), .int (nI c0)] (fun U H => KK G t U ∧ Mn G t d z H)) (vp_Si (fun r => r = nI (aimN z u c0))) 0 0 (fun _ => False) := by
  refine Met.ofW (cc := cX4_points) (maxL := 10) (ret := (some .int)) (by decide) rfl ?_
  intro p e s m args below meth c s₁ B hml hv
  obtain ⟨rfl, hB⟩ := hv
  have hx := B.exec
  have hb := B.bytes
  have hr := B.returns
  have hts := atoms_spec (ws := wsX4_points) B.pre
  have hown : s.vm.findClass RX4 = some m.cls := findClass_of_methodNamed B.named
  have hlocks := B.notSynchronized
  have hK := hB.1
  obtain ⟨bc, sl, lo, h0, h1⟩ := hB.2
  have hn := hz.n
  have hu5 := hz.u5
  have hs8 := hz.s8
  have hp := prN_in (cn z)
  have huf := hz.us hu
  have b1 := huf.1.2
  have b2 := huf.2.1.2
  have b3 := huf.2.2.1.2
  have b4 := huf.2.2.2.1.2
  have b5 := hz.o hu
  have a4 : uT z u % cn z < cn z := Nat.mod_lt _ (by omega)
  have a5 : c0 * (1 + uT z u % cn z) ≤ 5000 * 11 := Nat.mul_le_mul hc (by omega)
  have a1 : c0 / (3 * prN (cn z)) ≤ c0 := Nat.div_le_self _ _
  have a2 : c0 % (3 * prN (cn z)) < 3 * prN (cn z) := Nat.mod_lt _ (by omega)
  have a3 : c0 / (3 * prN (cn z)) / prN (cn z) ≤ c0 / (3 * prN (cn z)) := Nat.div_le_self _ _
  have a6 : (1 + uT z u % cn z - 1 + c0 / (3 * prN (cn z)) / prN (cn z)) % cn z < cn z := Nat.mod_lt _ (by omega)
  have a7 : c0 % (3 * prN (cn z)) * (1 + (1 + uT z u % cn z - 1 + c0 / (3 * prN (cn z)) / prN (cn z)) % cn z) ≤ 33 * 11 := Nat.mul_le_mul (by omega) (by omega)
  have hl := lv_entry ([.ref d, .int (nI u), .int (nI c0)]) (n := 10) (Nat.le_of_ble_eq_true rfl)
  rw [lg_entry_eq]
  generalize (lg_sl ([.ref d, .int (nI u), .int (nI c0)]) ++ List.replicate (10 - (lg_sl ([.ref d, .int (nI u), .int (nI c0)])).length) Slot.unset).toArray = ls at hl ⊢
  have hl : lv_has ls 10 [(0, .ref d), (1, .int (nI u)), (2, .int (nI c0))] := hl
  refine lv_aload_n hx hb dX4_points_0 rfl (lv_at hl 0 rfl) ?_
  refine r_get (C := RX4) (T := TX4) (N := 10) hx hb hts iiX4_points_4 hown hK h0 rfl 0 (by decide) (hts (.fieldLink RX4 7 "HopMeetModel" "now" "[I") (List.mem_of_getElem? (i := 1) rfl)) rfl dX4_points_1 ?_
  refine lv_iconst (v := nI 0) hx hb dX4_points_4 (by decide) ?_
  refine r_iald hx hb hK h1 rfl 0 (by omega) (by decide) (v := nI (cn z)) hz.1.1 dX4_points_5 ?_
  refine lv_istore_n (lv' := [(3, .int (nI (cn z))), (0, .ref d), (1, .int (nI u)), (2, .int (nI c0))]) hx hb dX4_points_6 rfl hl (by decide) rfl (fun ls hl => ?_)
  refine lv_aload_n hx hb dX4_points_7 rfl (lv_at hl 1 rfl) ?_
  refine r_get (C := RX4) (T := TX4) (N := 10) hx hb hts iiX4_points_4 hown hK h0 rfl 6 (by decide) (hts (.fieldLink RX4 35 "HopMeetModel" "prime" "I") (List.mem_of_getElem? (i := 2) rfl)) rfl dX4_points_8 ?_
  refine lv_istore (lv' := [(4, .int (nI (prN (cn z)))), (3, .int (nI (cn z))), (0, .ref d), (1, .int (nI u)), (2, .int (nI c0))]) hx hb dX4_points_11 hl (by decide) rfl (fun ls hl => ?_)
  refine lv_aload_n hx hb dX4_points_13 rfl (lv_at hl 2 rfl) ?_
  refine lv_iload_n hx hb dX4_points_14 rfl (lv_at hl 3 rfl) ?_
  refine lv_iconst (v := nI 1) hx hb dX4_points_15 (by decide) ?_
  refine r_cV (av := [.int (nI u), .int (nI 1)]) (c_X4_of l G t d z hz u 1 (by omega) (by decide)) ⟨hx, hb, hml, hown, hts⟩ (cwV 2 hts gX4_points_X4_of rfl rfl rfl (by decide +kernel) ⟨Nat.le_of_ble_eq_true rfl, Nat.le_of_ble_eq_true rfl⟩) mv_K hB (at_recv hK h0 rfl) rfl hl (Nat.le_of_ble_eq_true rfl) ⟨Nat.le_of_ble_eq_true rfl, Nat.le_of_ble_eq_true rfl⟩ rfl dX4_points_16 (fun r1 hr1 => ?_)
  subst hr1
  refine r_top (y := nI (uS z u)) huf.2.1.1 ?_
  refine lv_istore (lv' := [(5, .int (nI (uS z u))), (4, .int (nI (prN (cn z)))), (3, .int (nI (cn z))), (0, .ref d), (1, .int (nI u)), (2, .int (nI c0))]) hx hb dX4_points_19 hl (by decide) rfl (fun ls hl => ?_)
  refine lv_iconst (v := nI 1) hx hb dX4_points_21 (by decide) ?_
  refine lv_aload_n hx hb dX4_points_22 rfl (lv_at hl 3 rfl) ?_
  refine lv_iload_n hx hb dX4_points_23 rfl (lv_at hl 4 rfl) ?_
  refine lv_iconst (v := nI 2) hx hb dX4_points_24 (by decide) ?_
  refine r_cV (av := [.int (nI u), .int (nI 2)]) (c_X4_of l G t d z hz u 2 (by omega) (by decide)) ⟨hx, hb, hml, hown, hts⟩ (cwV 2 hts gX4_points_X4_of rfl rfl rfl (by decide +kernel) ⟨Nat.le_of_ble_eq_true rfl, Nat.le_of_ble_eq_true rfl⟩) mv_K hB (at_recv hK h0 rfl) rfl hl (Nat.le_of_ble_eq_true rfl) ⟨Nat.le_of_ble_eq_true rfl, Nat.le_of_ble_eq_true rfl⟩ rfl dX4_points_25 (fun r2 hr2 => ?_)
  subst hr2
  refine r_top (y := nI (uT z u)) huf.2.2.1.1 ?_
  refine lv_iload_n hx hb dX4_points_28 rfl (lv_at hl 2 rfl) ?_
  refine r_iremN hx hb (by omega) (by omega) (by omega) dX4_points_29 ?_
  refine r_iaddN hx hb dX4_points_30 ?_
  refine lv_istore (lv' := [(6, .int (nI (1 + ((uT z u) % (cn z))))), (5, .int (nI (uS z u))), (4, .int (nI (prN (cn z)))), (3, .int (nI (cn z))), (0, .ref d), (1, .int (nI u)), (2, .int (nI c0))]) hx hb dX4_points_31 hl (by decide) rfl (fun ls hl => ?_)
  refine lv_aload_n hx hb dX4_points_33 rfl (lv_at hl 4 rfl) ?_
  refine lv_iload_n hx hb dX4_points_34 rfl (lv_at hl 5 rfl) ?_
  refine lv_iconst (v := nI 0) hx hb dX4_points_35 (by decide) ?_
  refine r_cV (av := [.int (nI u), .int (nI 0)]) (c_X4_of l G t d z hz u 0 (by omega) (by decide)) ⟨hx, hb, hml, hown, hts⟩ (cwV 2 hts gX4_points_X4_of rfl rfl rfl (by decide +kernel) ⟨Nat.le_of_ble_eq_true rfl, Nat.le_of_ble_eq_true rfl⟩) mv_K hB (at_recv hK h0 rfl) rfl hl (Nat.le_of_ble_eq_true rfl) ⟨Nat.le_of_ble_eq_true rfl, Nat.le_of_ble_eq_true rfl⟩ rfl dX4_points_36 (fun r3 hr3 => ?_)
  subst hr3
  refine r_top (y := nI (uR z u)) huf.1.1 ?_
  refine lv_iconst (v := nI 1) hx hb dX4_points_39 (by decide) ?_
  refine r_neN hx hb (by omega) (by omega) dX4_points_40 (tgt := 50) (by decide) (fun c1 => ?_) (fun c1 => ?_)
  · refine lv_aload_n hx hb dX4_points_50 rfl (lv_at hl 4 rfl) ?_
    refine lv_iload_n hx hb dX4_points_51 rfl (lv_at hl 5 rfl) ?_
    refine lv_iconst (v := nI 0) hx hb dX4_points_52 (by decide) ?_
    refine r_cV (av := [.int (nI u), .int (nI 0)]) (c_X4_of l G t d z hz u 0 (by omega) (by decide)) ⟨hx, hb, hml, hown, hts⟩ (cwV 2 hts gX4_points_X4_of rfl rfl rfl (by decide +kernel) ⟨Nat.le_of_ble_eq_true rfl, Nat.le_of_ble_eq_true rfl⟩) mv_K hB (at_recv hK h0 rfl) rfl hl (Nat.le_of_ble_eq_true rfl) ⟨Nat.le_of_ble_eq_true rfl, Nat.le_of_ble_eq_true rfl⟩ rfl dX4_points_53 (fun r4 hr4 => ?_)
    subst hr4
    refine r_top (y := nI (uR z u)) huf.1.1 ?_
    refine lv_iconst (v := nI 2) hx hb dX4_points_56 (by decide) ?_
    refine r_neN hx hb (by omega) (by omega) dX4_points_57 (tgt := 65) (by decide) (fun c2 => ?_) (fun c2 => ?_)
    · refine lv_aload_n hx hb dX4_points_65 rfl (lv_at hl 4 rfl) ?_
      refine lv_iload_n hx hb dX4_points_66 rfl (lv_at hl 5 rfl) ?_
      refine lv_iconst (v := nI 0) hx hb dX4_points_67 (by decide) ?_
      refine r_cV (av := [.int (nI u), .int (nI 0)]) (c_X4_of l G t d z hz u 0 (by omega) (by decide)) ⟨hx, hb, hml, hown, hts⟩ (cwV 2 hts gX4_points_X4_of rfl rfl rfl (by decide +kernel) ⟨Nat.le_of_ble_eq_true rfl, Nat.le_of_ble_eq_true rfl⟩) mv_K hB (at_recv hK h0 rfl) rfl hl (Nat.le_of_ble_eq_true rfl) ⟨Nat.le_of_ble_eq_true rfl, Nat.le_of_ble_eq_true rfl⟩ rfl dX4_points_68 (fun r5 hr5 => ?_)
      subst hr5
      refine r_top (y := nI (uR z u)) huf.1.1 ?_
      refine lv_iconst (v := nI 3) hx hb dX4_points_71 (by decide) ?_
      refine r_neN hx hb (by omega) (by omega) dX4_points_72 (tgt := 88) (by decide) (fun c3 => ?_) (fun c3 => ?_)
      · refine lv_iload_n hx hb dX4_points_88 rfl (lv_at hl 6 rfl) ?_
        refine lv_iconst (v := nI 3) hx hb dX4_points_89 (by decide) ?_
        refine lv_iload hx hb dX4_points_90 (lv_at hl 2 rfl) ?_
        refine r_imulN hx hb dX4_points_92 ?_
        refine r_idivN hx hb (by omega) (by omega) (by omega) dX4_points_93 ?_
        refine lv_istore (lv' := [(7, .int (nI (c0 / (3 * (prN (cn z)))))), (6, .int (nI (1 + ((uT z u) % (cn z))))), (5, .int (nI (uS z u))), (4, .int (nI (prN (cn z)))), (3, .int (nI (cn z))), (0, .ref d), (1, .int (nI u)), (2, .int (nI c0))]) hx hb dX4_points_94 hl (by decide) rfl (fun ls hl => ?_)
        refine lv_iload_n hx hb dX4_points_96 rfl (lv_at hl 7 rfl) ?_
        refine lv_iconst (v := nI 3) hx hb dX4_points_97 (by decide) ?_
        refine lv_iload hx hb dX4_points_98 (lv_at hl 3 rfl) ?_
        refine r_imulN hx hb dX4_points_100 ?_
        refine r_iremN hx hb (by omega) (by omega) (by omega) dX4_points_101 ?_
        refine lv_istore (lv' := [(8, .int (nI (c0 % (3 * (prN (cn z)))))), (7, .int (nI (c0 / (3 * (prN (cn z)))))), (6, .int (nI (1 + ((uT z u) % (cn z))))), (5, .int (nI (uS z u))), (4, .int (nI (prN (cn z)))), (3, .int (nI (cn z))), (0, .ref d), (1, .int (nI u)), (2, .int (nI c0))]) hx hb dX4_points_102 hl (by decide) rfl (fun ls hl => ?_)
        refine lv_iload hx hb dX4_points_104 (lv_at hl 2 rfl) ?_
        refine lv_iconst (v := nI 1) hx hb dX4_points_106 (by decide) ?_
        refine r_isubN hx hb (by omega) dX4_points_107 ?_
        refine lv_iload hx hb dX4_points_108 (lv_at hl 1 rfl) ?_
        refine lv_iload hx hb dX4_points_110 (lv_at hl 4 rfl) ?_
        refine r_idivN hx hb (by omega) (by omega) (by omega) dX4_points_112 ?_
        refine r_iaddN hx hb dX4_points_113 ?_
        refine lv_iload_n hx hb dX4_points_114 rfl (lv_at hl 5 rfl) ?_
        refine r_iremN hx hb (by omega) (by omega) (by omega) dX4_points_115 ?_
        refine lv_iconst (v := nI 1) hx hb dX4_points_116 (by decide) ?_
        refine r_iaddN hx hb dX4_points_117 ?_
        refine r_top (y := nI (1 + ((((1 + ((uT z u) % (cn z))) - 1) + ((c0 / (3 * (prN (cn z)))) / (prN (cn z)))) % (cn z)))) (congrArg nI (Nat.add_comm _ _)) ?_
        refine lv_istore (lv' := [(9, .int (nI (1 + ((((1 + ((uT z u) % (cn z))) - 1) + ((c0 / (3 * (prN (cn z)))) / (prN (cn z)))) % (cn z))))), (8, .int (nI (c0 % (3 * (prN (cn z)))))), (7, .int (nI (c0 / (3 * (prN (cn z)))))), (6, .int (nI (1 + ((uT z u) % (cn z))))), (5, .int (nI (uS z u))), (4, .int (nI (prN (cn z)))), (3, .int (nI (cn z))), (0, .ref d), (1, .int (nI u)), (2, .int (nI c0))]) hx hb dX4_points_118 hl (by decide) rfl (fun ls hl => ?_)
        refine lv_iload hx hb dX4_points_120 (lv_at hl 1 rfl) ?_
        refine lv_iconst (v := nI 2) hx hb dX4_points_122 (by decide) ?_
        refine lv_iload hx hb dX4_points_123 (lv_at hl 5 rfl) ?_
        refine r_imulN hx hb dX4_points_125 ?_
        refine r_geN hx hb (by omega) (by omega) dX4_points_126 (tgt := 146) (by decide) (fun c4 => ?_) (fun c4 => ?_)
        · refine lv_iload hx hb dX4_points_146 (lv_at hl 0 rfl) ?_
          refine lv_iload_n hx hb dX4_points_148 rfl (lv_at hl 6 rfl) ?_
          refine r_iremN hx hb (by first | omega | exact Nat.lt_of_lt_of_le (Nat.mod_lt _ (by omega)) (by omega : prN (cn z) ≤ 2 ^ 31)) (by omega) (by omega) dX4_points_149 ?_
          exact r_retS (v := nI ((1 + ((((1 + ((uT z u) % (cn z))) - 1) + ((c0 / (3 * (prN (cn z)))) / (prN (cn z)))) % (cn z))) % (cn z))) hx hb hr hlocks (congrArg nI (show _ = aimN z u c0 by unfold aimN ptsN jsN; rw [if_pos (by omega), if_neg (by omega)])) dX4_points_150
        · refine lv_iload hx hb dX4_points_129 (lv_at hl 4 rfl) ?_
          refine lv_iload hx hb dX4_points_131 (lv_at hl 2 rfl) ?_
          refine r_iaddN hx hb dX4_points_133 ?_
          refine lv_iload hx hb dX4_points_134 (lv_at hl 1 rfl) ?_
          refine lv_iload hx hb dX4_points_136 (lv_at hl 0 rfl) ?_
          refine r_imulN hx hb dX4_points_138 ?_
          refine r_iaddN hx hb dX4_points_139 ?_
          refine lv_iload hx hb dX4_points_140 (lv_at hl 5 rfl) ?_
          refine r_iremN hx hb (by omega) (by omega) (by omega) dX4_points_142 ?_
          refine lv_goto (tgt := 148) hx hb dX4_points_143 (by decide) ?_
          refine lv_iload_n hx hb dX4_points_148 rfl (lv_at hl 6 rfl) ?_
          refine r_iremN hx hb (by first | omega | exact Nat.lt_of_lt_of_le (Nat.mod_lt _ (by omega)) (by omega : prN (cn z) ≤ 2 ^ 31)) (by omega) (by omega) dX4_points_149 ?_
          exact r_retS (v := nI (((((uS z u) + (c0 / (3 * (prN (cn z))))) + ((c0 % (3 * (prN (cn z)))) * (1 + ((((1 + ((uT z u) % (cn z))) - 1) + ((c0 / (3 * (prN (cn z)))) / (prN (cn z)))) % (cn z))))) % (prN (cn z))) % (cn z))) hx hb hr hlocks (congrArg nI (show _ = aimN z u c0 by unfold aimN ptsN jsN; rw [if_pos (by omega), if_pos c4])) dX4_points_150
      · refine lv_iload hx hb dX4_points_75 (lv_at hl 1 rfl) ?_
        refine lv_iload_n hx hb dX4_points_77 rfl (lv_at hl 6 rfl) ?_
        refine lv_iload hx hb dX4_points_78 (lv_at hl 0 rfl) ?_
        refine r_imulN hx hb dX4_points_80 ?_
        refine r_iaddN hx hb dX4_points_81 ?_
        refine lv_iload hx hb dX4_points_82 (lv_at hl 2 rfl) ?_
        refine r_iremN hx hb (by omega) (by omega) (by omega) dX4_points_84 ?_
        refine lv_iload_n hx hb dX4_points_85 rfl (lv_at hl 3 rfl) ?_
        refine r_iremN hx hb (Nat.lt_of_lt_of_le (Nat.mod_lt _ (by omega)) (by omega : prN (cn z) ≤ 2 ^ 31)) (by omega) (by omega) dX4_points_86 ?_
        exact r_retS (v := nI ((((uS z u) + (c0 * (1 + ((uT z u) % (cn z))))) % (prN (cn z))) % (cn z))) hx hb hr hlocks (congrArg nI (show _ = aimN z u c0 by unfold aimN ptsN; rw [if_neg (by omega), if_neg (by omega), if_neg (by omega)])) dX4_points_87
    · refine lv_iload hx hb dX4_points_60 (lv_at hl 1 rfl) ?_
      refine lv_iload_n hx hb dX4_points_62 rfl (lv_at hl 3 rfl) ?_
      refine r_iremN hx hb (by omega) (by omega) (by omega) dX4_points_63 ?_
      exact r_retS (v := nI ((uS z u) % (cn z))) hx hb hr hlocks (congrArg nI (show _ = aimN z u c0 by unfold aimN ptsN; rw [if_neg (by omega), if_neg (by omega), if_pos c2])) dX4_points_64
  · refine lv_iload hx hb dX4_points_43 (lv_at hl 1 rfl) ?_
    refine lv_iload_n hx hb dX4_points_45 rfl (lv_at hl 6 rfl) ?_
    refine r_iaddN hx hb dX4_points_46 ?_
    refine lv_iload_n hx hb dX4_points_47 rfl (lv_at hl 3 rfl) ?_
    refine r_iremN hx hb (by omega) (by omega) (by omega) dX4_points_48 ?_
    exact r_retS (v := nI (((uS z u) + c0) % (cn z))) hx hb hr hlocks (congrArg nI (show _ = aimN z u c0 by unfold aimN ptsN; rw [if_neg (by omega), if_pos c1])) dX4_points_49

set_option maxHeartbeats 4000000 in
set_option maxRecDepth 100000 in
/-- how many bits are set -/
theorem c_X4_ones (l : Launch) (G : va_G) (t : gT) (x : Nat) (hx0 : x < 1024) : Met l yX4_ones wsX4_ones ({ frames := 0, cells := 0, slots := 0, locals := 0 } : Room) (pc_ [.int (nI x)] (fun _ _ => True)) (vp_Si (fun r => r = nI (onesN x))) 0 0 (fun _ => False) := by
  refine Met.ofW (cc := cX4_ones) (maxL := 3) (ret := (some .int)) (by decide) rfl ?_
  intro p e s m args below meth c s₁ B hml hv
  obtain ⟨rfl, hB⟩ := hv
  have hx := B.exec
  have hb := B.bytes
  have hr := B.returns
  have hts := atoms_spec (ws := wsX4_ones) B.pre
  have hown : s.vm.findClass RX4 = some m.cls := findClass_of_methodNamed B.named
  have hlocks := B.notSynchronized
  have hl := lv_entry ([.int (nI x)]) (n := 3) (Nat.le_of_ble_eq_true rfl)
  rw [lg_entry_eq]
  generalize (lg_sl ([.int (nI x)]) ++ List.replicate (3 - (lg_sl ([.int (nI x)])).length) Slot.unset).toArray = ls at hl ⊢
  have hl : lv_has ls 3 [(0, .int (nI x))] := hl
  refine lv_iconst (v := nI 0) hx hb dX4_ones_0 (by decide) ?_
  refine lv_istore_n (lv' := [(1, .int (nI 0)), (0, .int (nI x))]) hx hb dX4_ones_1 rfl hl (by decide) rfl (fun ls hl => ?_)
  refine lv_iconst (v := nI 0) hx hb dX4_ones_2 (by decide) ?_
  refine lv_istore_n (lv' := [(2, .int (nI 0)), (1, .int (nI 0)), (0, .int (nI x))]) hx hb dX4_ones_3 rfl hl (by decide) rfl (fun ls hl => ?_)
  have loop4 : ∀ (fu : Nat) (k : Nat) (hk : k ≤ 10) (hfu : 10 - k < fu) (ls : Array Slot) (hl : lv_has ls 3 [(0, .int (nI x)), (1, .int (nI (onesF x k))), (2, .int (nI k))]), W p l e (headSpec wsX4_ones ({ frames := 0, cells := 0, slots := 0, locals := 0 } : Room)).room s m ([.int (nI x)] : List Value).toArray below meth c s.heap [] 0 0 (MQ below (vp_Si (fun r => r = nI (onesN x))) ([.int (nI x)] : List Value).toArray s 0 0 (fun _ => False)) (F0 m 4 ls []) := by
    intro fu
    induction fu with
    | zero => intro k hk hfu; exact absurd hfu (Nat.not_lt_zero _)
    | succ fu4 ih4 =>
      intro k hk hfu ls hl
      refine lv_iload_n hx hb dX4_ones_4 rfl (lv_at hl 2 rfl) ?_
      refine lv_bipush (v := nI 10) hx hb dX4_ones_5 (by decide) ?_
      refine r_geN hx hb (by omega) (by omega) dX4_ones_7 (tgt := 24) (by decide) (fun c1 => ?_) (fun c1 => ?_)
      · refine lv_iload_n hx hb dX4_ones_24 rfl (lv_at hl 1 rfl) ?_
        exact r_retS (v := nI (onesF x k)) hx hb hr hlocks (by rw [show k = 10 by omega]; rfl) dX4_ones_25
      · refine lv_iload_n hx hb dX4_ones_10 rfl (lv_at hl 1 rfl) ?_
        refine lv_iload_n hx hb dX4_ones_11 rfl (lv_at hl 0 rfl) ?_
        refine lv_iload_n hx hb dX4_ones_12 rfl (lv_at hl 2 rfl) ?_
        refine lv_ishr hx hb dX4_ones_13 ?_
        refine r_top (y := nI (x / 2 ^ k)) (i_shr (by omega) (by omega)) ?_
        refine lv_iconst (v := nI 1) hx hb dX4_ones_14 (by decide) ?_
        refine r_iandN hx hb dX4_ones_15 ?_
        refine r_top (y := nI (bt0 x k)) (congrArg nI (i_and1 _)) ?_
        refine r_iaddN hx hb dX4_ones_16 ?_
        refine lv_istore_n (lv' := [(1, .int (nI ((onesF x k) + (bt0 x k)))), (0, .int (nI x)), (2, .int (nI k))]) hx hb dX4_ones_17 rfl hl (by decide) rfl (fun ls hl => ?_)
        refine lv_iinc (v := nI (k + 1)) (lv' := [(2, .int (nI (k + 1))), (1, .int (nI ((onesF x k) + (bt0 x k)))), (0, .int (nI x))]) hx hb dX4_ones_18 hl (k := 2) rfl (nI_1 _) (by decide) rfl (fun ls hl => ?_)
        refine lv_goto (tgt := 4) hx hb dX4_ones_21 (by decide) ?_
        exact ih4 (k + 1) (by omega) (by omega) ls (lv_sub hl [2, 1, 0] rfl)
  exact loop4 _ 0 (Nat.zero_le _) (Nat.lt_succ_self _) ls (lv_sub hl [2, 1, 0] rfl)

set_option maxRecDepth 20000 in
theorem iiX4_lands_4 : ∀ w ∈ wsX40, w ∈ wsX4_lands := by decide +kernel
set_option maxHeartbeats 4000000 in
set_option maxRecDepth 100000 in
/-- where a user is by its clock -/
theorem c_X4_lands (l : Launch) (G : va_G) (t : gT) (d : Nat) (z : Nat → Int32) (hz : WF z) (u c0 : Nat) (hu : u < cu z) (hc : c0 ≤ 5000) : Met l yX4_lands wsX4_lands ({ frames := 2, cells := 0, slots := 0, locals := 51 } : Room) (pc_ [.ref d, .int (nI u), .int (nI c0)] (fun U H => KK G t U ∧ Mn G t d z H)) (vp_Si (fun r => r = plN z u c0)) 0 0 (fun _ => False) := by
  refine Met.ofW (cc := cX4_lands) (maxL := 7) (ret := (some .int)) (by decide) rfl ?_
  intro p e s m args below meth c s₁ B hml hv
  obtain ⟨rfl, hB⟩ := hv
  have hx := B.exec
  have hb := B.bytes
  have hr := B.returns
  have hts := atoms_spec (ws := wsX4_lands) B.pre
  have hown : s.vm.findClass RX4 = some m.cls := findClass_of_methodNamed B.named
  have hlocks := B.notSynchronized
  have hK := hB.1
  obtain ⟨bc, sl, lo, h0, h1⟩ := hB.2
  have hn := hz.n
  have hu5 := hz.u5
  have hs8 := hz.s8
  have hp := prN_in (cn z)
  have huf := hz.us hu
  have b1 := huf.1.2
  have b2 := huf.2.1.2
  have b3 := huf.2.2.1.2
  have b4 := huf.2.2.2.1.2
  have b5 := hz.o hu
  have b6 := hz.aim u c0
  have hl := lv_entry ([.ref d, .int (nI u), .int (nI c0)]) (n := 7) (Nat.le_of_ble_eq_true rfl)
  rw [lg_entry_eq]
  generalize (lg_sl ([.ref d, .int (nI u), .int (nI c0)]) ++ List.replicate (7 - (lg_sl ([.ref d, .int (nI u), .int (nI c0)])).length) Slot.unset).toArray = ls at hl ⊢
  have hl : lv_has ls 7 [(0, .ref d), (1, .int (nI u)), (2, .int (nI c0))] := hl
  refine lv_aload_n hx hb dX4_lands_0 rfl (lv_at hl 0 rfl) ?_
  refine lv_iload_n hx hb dX4_lands_1 rfl (lv_at hl 1 rfl) ?_
  refine lv_iconst (v := nI 4) hx hb dX4_lands_2 (by decide) ?_
  refine r_cV (av := [.int (nI u), .int (nI 4)]) (c_X4_of l G t d z hz u 4 (by omega) (by decide)) ⟨hx, hb, hml, hown, hts⟩ (cwV 2 hts gX4_lands_X4_of rfl rfl rfl (by decide +kernel) ⟨Nat.le_of_ble_eq_true rfl, Nat.le_of_ble_eq_true rfl⟩) mv_K hB (at_recv hK h0 rfl) rfl hl (Nat.le_of_ble_eq_true rfl) ⟨Nat.le_of_ble_eq_true rfl, Nat.le_of_ble_eq_true rfl⟩ rfl dX4_lands_3 (fun r1 hr1 => ?_)
  subst hr1
  refine r_top (y := nI (uO z u)) huf.2.2.2.2.1 ?_
  refine lv_istore_n (lv' := [(3, .int (nI (uO z u))), (0, .ref d), (1, .int (nI u)), (2, .int (nI c0))]) hx hb dX4_lands_6 rfl hl (by decide) rfl (fun ls hl => ?_)
  refine lv_aload_n hx hb dX4_lands_7 rfl (lv_at hl 1 rfl) ?_
  refine lv_iload_n hx hb dX4_lands_8 rfl (lv_at hl 2 rfl) ?_
  refine lv_iload_n hx hb dX4_lands_9 rfl (lv_at hl 3 rfl) ?_
  refine r_cV (av := [.int (nI u), .int (nI c0)]) (c_X4_points l G t d z hz u c0 hu hc) ⟨hx, hb, hml, hown, hts⟩ (cwV 2 hts gX4_lands_X4_points rfl rfl rfl (by decide +kernel) ⟨Nat.le_of_ble_eq_true rfl, Nat.le_of_ble_eq_true rfl⟩) mv_K hB (at_recv hK h0 rfl) rfl hl (Nat.le_of_ble_eq_true rfl) ⟨Nat.le_of_ble_eq_true rfl, Nat.le_of_ble_eq_true rfl⟩ rfl dX4_lands_10 (fun r2 hr2 => ?_)
  subst hr2
  refine lv_istore (lv' := [(4, .int (nI (aimN z u c0))), (3, .int (nI (uO z u))), (0, .ref d), (1, .int (nI u)), (2, .int (nI c0))]) hx hb dX4_lands_13 hl (by decide) rfl (fun ls hl => ?_)
  refine lv_iload_n hx hb dX4_lands_15 rfl (lv_at hl 1 rfl) ?_
  refine r_ifeqN hx hb (by omega) dX4_lands_16 (tgt := 29) (by decide) (fun c1 => ?_) (fun c1 => ?_)
  · refine lv_iload_n hx hb dX4_lands_29 rfl (lv_at hl 1 rfl) ?_
    refine r_ifneN hx hb (by omega) dX4_lands_30 (tgt := 37) (by decide) (fun c3 => absurd c1 c3) (fun _ => ?_)
    refine lv_iconst (v := (-1)) hx hb dX4_lands_33 (by decide) ?_
    refine lv_goto (tgt := 39) hx hb dX4_lands_34 (by decide) ?_
    exact r_retS (v := (-1)) hx hb hr hlocks (plN_0 c1).symm dX4_lands_39
  · refine lv_iload_n hx hb dX4_lands_19 rfl (lv_at hl 1 rfl) ?_
    refine lv_iload hx hb dX4_lands_20 (lv_at hl 0 rfl) ?_
    refine lv_ishr hx hb dX4_lands_22 ?_
    refine r_top (y := nI (uO z u / 2 ^ (aimN z u c0))) (i_shr (by omega) (by omega)) ?_
    refine lv_iconst (v := nI 1) hx hb dX4_lands_23 (by decide) ?_
    refine r_iandN hx hb dX4_lands_24 ?_
    refine r_top (y := nI (bt0 (uO z u) (aimN z u c0))) (congrArg nI (i_and1 _)) ?_
    refine lv_iconst (v := nI 1) hx hb dX4_lands_25 (by decide) ?_
    refine r_neN hx hb (Nat.lt_trans (bt0_lt _ _) (by decide)) (by decide) dX4_lands_26 (tgt := 40) (by decide) (fun c2 => ?_) (fun c2 => ?_)
    · refine lv_iload hx hb dX4_lands_40 (lv_at hl 0 rfl) ?_
      refine lv_iload_n hx hb dX4_lands_42 rfl (lv_at hl 1 rfl) ?_
      refine r_cS (av := [.int (nI (uO z u))]) (c_X4_ones l G t (uO z u) b5) ⟨hx, hb, hml, hown, hts⟩ (va_cwS 1 hts gX4_lands_X4_ones rfl rfl rfl (by decide +kernel) ⟨Nat.le_of_ble_eq_true rfl, Nat.le_of_ble_eq_true rfl⟩) mv_T trivial rfl hl (Nat.le_of_ble_eq_true rfl) ⟨Nat.le_of_ble_eq_true rfl, Nat.le_of_ble_eq_true rfl⟩ rfl dX4_lands_43 (fun r3 hr3 => ?_)
      subst hr3
      have b7 := ones_pos _ b5 (Nat.pos_of_ne_zero c1)
      have b8 := ones_le _ b5
      have b9 : aimN z u c0 % onesN (uO z u) < onesN (uO z u) := Nat.mod_lt _ b7
      refine r_iremN hx hb (by omega) (by omega) (by omega) dX4_lands_46 ?_
      refine lv_istore (lv' := [(5, .int (nI ((aimN z u c0) % (onesN (uO z u))))), (4, .int (nI (aimN z u c0))), (3, .int (nI (uO z u))), (0, .ref d), (1, .int (nI u)), (2, .int (nI c0))]) hx hb dX4_lands_47 hl (by decide) rfl (fun ls hl => ?_)
      refine lv_iconst (v := nI 0) hx hb dX4_lands_49 (by decide) ?_
      refine lv_istore (lv' := [(6, .int (nI 0)), (5, .int (nI ((aimN z u c0) % (onesN (uO z u))))), (4, .int (nI (aimN z u c0))), (3, .int (nI (uO z u))), (0, .ref d), (1, .int (nI u)), (2, .int (nI c0))]) hx hb dX4_lands_50 hl (by decide) rfl (fun ls hl => ?_)
      have loop52 : ∀ (fu : Nat) (k : Nat) (w : Nat) (hk : k ≤ 10) (hw : w ≤ 10) (hm : mwN (uO z u) (10 - k) k w = mwN (uO z u) 10 0 (aimN z u c0 % onesN (uO z u))) (hfu : 10 - k < fu) (ls : Array Slot) (hl : lv_has ls 7 [(3, .int (nI (uO z u))), (5, .int (nI w)), (6, .int (nI k))]), W p l e (headSpec wsX4_lands ({ frames := 2, cells := 0, slots := 0, locals := 51 } : Room)).room s m ([.ref d, .int (nI u), .int (nI c0)] : List Value).toArray below meth c s.heap [] 0 0 (MQ below (vp_Si (fun r => r = plN z u c0)) ([.ref d, .int (nI u), .int (nI c0)] : List Value).toArray s 0 0 (fun _ => False)) (F0 m 52 ls []) := by
        intro fu
        induction fu with
        | zero => intro k w hk hw hm hfu; exact absurd hfu (Nat.not_lt_zero _)
        | succ fu52 ih52 =>
          intro k w hk hw hm hfu ls hl
          have hk2 : k < 10 := by
            apply Decidable.byContradiction
            intro hq
            have q1 := mw_lt _ b5 _ b9
            rw [← hm, show 10 - k = 0 by omega] at q1
            simp [mwN] at q1
          refine lv_iload_n hx hb dX4_lands_52 rfl (lv_at hl 0 rfl) ?_
          refine lv_iload hx hb dX4_lands_53 (lv_at hl 2 rfl) ?_
          refine lv_ishr hx hb dX4_lands_55 ?_
          refine r_top (y := nI (uO z u / 2 ^ k)) (i_shr (by omega) (by omega)) ?_
          refine lv_iconst (v := nI 1) hx hb dX4_lands_56 (by decide) ?_
          refine r_iandN hx hb dX4_lands_57 ?_
          refine r_top (y := nI (bt0 (uO z u) k)) (congrArg nI (i_and1 _)) ?_
          refine r_ifeqN hx hb (Nat.lt_trans (bt0_lt _ _) (by decide)) dX4_lands_58 (tgt := 66) (by decide) (fun c4 => ?_) (fun c4 => ?_)
          · refine lv_iload hx hb dX4_lands_66 (lv_at hl 1 rfl) ?_
            refine lv_iload_n hx hb dX4_lands_68 rfl (lv_at hl 0 rfl) ?_
            refine lv_iload hx hb dX4_lands_69 (lv_at hl 2 rfl) ?_
            refine lv_ishr hx hb dX4_lands_71 ?_
            refine r_top (y := nI (uO z u / 2 ^ k)) (i_shr (by omega) (by omega)) ?_
            refine lv_iconst (v := nI 1) hx hb dX4_lands_72 (by decide) ?_
            refine r_iandN hx hb dX4_lands_73 ?_
            refine r_top (y := nI (bt0 (uO z u) k)) (congrArg nI (i_and1 _)) ?_
            refine r_isubN hx hb (by omega) dX4_lands_74 ?_
            refine r_top (y := nI w) (by first | rw [c4, Nat.sub_zero] | rw [hb1]) ?_
            refine lv_istore (lv' := [(5, .int (nI w)), (3, .int (nI (uO z u))), (6, .int (nI k))]) hx hb dX4_lands_75 hl (by decide) rfl (fun ls hl => ?_)
            refine lv_iinc (v := nI (k + 1)) (lv' := [(6, .int (nI (k + 1))), (5, .int (nI w)), (3, .int (nI (uO z u)))]) hx hb dX4_lands_77 hl (k := 2) rfl (nI_1 _) (by decide) rfl (fun ls hl => ?_)
            refine lv_goto (tgt := 52) hx hb dX4_lands_80 (by decide) ?_
            exact ih52 (k + 1) w (by omega) (by omega) ((mw_b _ k w hk2 (decide_eq_false (by rw [c4]; decide))).symm.trans hm) (by omega) ls (lv_sub hl [2, 1, 0] rfl)
          · have hb1 : bt0 (uO z u) k = 1 := by have := bt0_lt (uO z u) k; omega
            refine lv_iload hx hb dX4_lands_61 (lv_at hl 1 rfl) ?_
            refine r_ifleN hx hb (by omega) dX4_lands_63 (tgt := 83) (by decide) (fun c5 => ?_) (fun c5 => ?_)
            · refine lv_iload hx hb dX4_lands_83 (lv_at hl 2 rfl) ?_
              exact r_retS (v := nI k) hx hb hr hlocks (by rw [plN_1 c1, landN, if_neg c2, ← hm, mw_c _ k w hk2 (decide_eq_true hb1) c5]) dX4_lands_85
            · refine lv_iload hx hb dX4_lands_66 (lv_at hl 1 rfl) ?_
              refine lv_iload_n hx hb dX4_lands_68 rfl (lv_at hl 0 rfl) ?_
              refine lv_iload hx hb dX4_lands_69 (lv_at hl 2 rfl) ?_
              refine lv_ishr hx hb dX4_lands_71 ?_
              refine r_top (y := nI (uO z u / 2 ^ k)) (i_shr (by omega) (by omega)) ?_
              refine lv_iconst (v := nI 1) hx hb dX4_lands_72 (by decide) ?_
              refine r_iandN hx hb dX4_lands_73 ?_
              refine r_top (y := nI (bt0 (uO z u) k)) (congrArg nI (i_and1 _)) ?_
              refine r_isubN hx hb (by omega) dX4_lands_74 ?_
              refine r_top (y := nI (w - 1)) (by first | rw [c4, Nat.sub_zero] | rw [hb1]) ?_
              refine lv_istore (lv' := [(5, .int (nI (w - 1))), (3, .int (nI (uO z u))), (6, .int (nI k))]) hx hb dX4_lands_75 hl (by decide) rfl (fun ls hl => ?_)
              refine lv_iinc (v := nI (k + 1)) (lv' := [(6, .int (nI (k + 1))), (5, .int (nI (w - 1))), (3, .int (nI (uO z u)))]) hx hb dX4_lands_77 hl (k := 2) rfl (nI_1 _) (by decide) rfl (fun ls hl => ?_)
              refine lv_goto (tgt := 52) hx hb dX4_lands_80 (by decide) ?_
              exact ih52 (k + 1) (w - 1) (by omega) (by omega) ((mw_a _ k w hk2 (decide_eq_true hb1) c5).symm.trans hm) (by omega) ls (lv_sub hl [2, 1, 0] rfl)
      exact loop52 _ 0 (aimN z u c0 % onesN (uO z u)) (Nat.zero_le _) (by omega) rfl (Nat.lt_succ_self _) ls (lv_sub hl [3, 1, 0] rfl)
    · refine lv_iload_n hx hb dX4_lands_29 rfl (lv_at hl 1 rfl) ?_
      refine r_ifneN hx hb (by omega) dX4_lands_30 (tgt := 37) (by decide) (fun _ => ?_) (fun c3 => absurd c3 c1)
      refine lv_iload hx hb dX4_lands_37 (lv_at hl 0 rfl) ?_
      exact r_retS (v := nI (aimN z u c0)) hx hb hr hlocks ((plN_1 c1).trans (congrArg nI (if_pos c2))).symm dX4_lands_39

set_option maxRecDepth 20000 in
theorem iiX4_isShut_4 : ∀ w ∈ wsX40, w ∈ wsX4_isShut := by decide +kernel
set_option maxHeartbeats 4000000 in
set_option maxRecDepth 100000 in
/-- whether a channel is shut for a user at a slot -/
theorem c_X4_isShut (l : Launch) (G : va_G) (t : gT) (d : Nat) (z : Nat → Int32) (hz : WF z) (u y : Nat) (ch : Int32) (hu : u < cu z) (hy : y ≤ 5000) : Met l yX4_isShut wsX4_isShut ({ frames := 1, cells := 0, slots := 0, locals := 22 } : Room) (pc_ [.ref d, .int (nI u), .int ch, .int (nI y)] (fun U H => KK G t U ∧ Mn G t d z H)) (vp_Si (fun r => r = bI (shB z u ch y (cs z)))) 0 0 (fun _ => False) := by
  refine Met.ofW (cc := cX4_isShut) (maxL := 8) (ret := (some .boolean)) (by decide) rfl ?_
  intro p e s m args below meth c s₁ B hml hv
  obtain ⟨rfl, hB⟩ := hv
  have hx := B.exec
  have hb := B.bytes
  have hr := B.returns
  have hts := atoms_spec (ws := wsX4_isShut) B.pre
  have hown : s.vm.findClass RX4 = some m.cls := findClass_of_methodNamed B.named
  have hlocks := B.notSynchronized
  have hK := hB.1
  obtain ⟨bc, sl, lo, h0, h1⟩ := hB.2
  have hn := hz.n
  have hu5 := hz.u5
  have hs8 := hz.s8
  have hp := prN_in (cn z)
  have hl := lv_entry ([.ref d, .int (nI u), .int ch, .int (nI y)]) (n := 8) (Nat.le_of_ble_eq_true rfl)
  rw [lg_entry_eq]
  generalize (lg_sl ([.ref d, .int (nI u), .int ch, .int (nI y)]) ++ List.replicate (8 - (lg_sl ([.ref d, .int (nI u), .int ch, .int (nI y)])).length) Slot.unset).toArray = ls at hl ⊢
  have hl : lv_has ls 8 [(0, .ref d), (1, .int (nI u)), (2, .int ch), (3, .int (nI y))] := hl
  refine lv_iconst (v := nI 0) hx hb dX4_isShut_0 (by decide) ?_
  refine r_top (y := bI (shB z u ch y 0)) rfl ?_
  refine lv_istore (lv' := [(4, .int (bI (shB z u ch y 0))), (0, .ref d), (1, .int (nI u)), (2, .int ch), (3, .int (nI y))]) hx hb dX4_isShut_1 hl (by decide) rfl (fun ls hl => ?_)
  refine lv_iconst (v := nI 0) hx hb dX4_isShut_3 (by decide) ?_
  refine lv_istore (lv' := [(5, .int (nI 0)), (4, .int (bI (shB z u ch y 0))), (0, .ref d), (1, .int (nI u)), (2, .int ch), (3, .int (nI y))]) hx hb dX4_isShut_4 hl (by decide) rfl (fun ls hl => ?_)
  have loop6 : ∀ (fu : Nat) (j : Nat) (hj : j ≤ cs z) (hfu : cs z - j < fu) (ls : Array Slot) (hl : lv_has ls 8 [(0, .ref d), (1, .int (nI u)), (2, .int ch), (3, .int (nI y)), (4, .int (bI (shB z u ch y j))), (5, .int (nI j))]), W p l e (headSpec wsX4_isShut ({ frames := 1, cells := 0, slots := 0, locals := 22 } : Room)).room s m ([.ref d, .int (nI u), .int ch, .int (nI y)] : List Value).toArray below meth c s.heap [] 0 0 (MQ below (vp_Si (fun r => r = bI (shB z u ch y (cs z)))) ([.ref d, .int (nI u), .int ch, .int (nI y)] : List Value).toArray s 0 0 (fun _ => False)) (F0 m 6 ls []) := by
    intro fu
    induction fu with
    | zero => intro j hj hfu; exact absurd hfu (Nat.not_lt_zero _)
    | succ fu6 ih6 =>
      intro j hj hfu ls hl
      refine lv_iload hx hb dX4_isShut_6 (lv_at hl 5 rfl) ?_
      refine lv_aload_n hx hb dX4_isShut_8 rfl (lv_at hl 0 rfl) ?_
      refine r_get (C := RX4) (T := TX4) (N := 10) hx hb hts iiX4_isShut_4 hown hK h0 rfl 0 (by decide) (hts (.fieldLink RX4 7 "HopMeetModel" "now" "[I") (List.mem_of_getElem? (i := 1) rfl)) rfl dX4_isShut_9 ?_
      refine lv_iconst (v := nI 2) hx hb dX4_isShut_12 (by decide) ?_
      refine r_iald hx hb hK h1 rfl 2 (by omega) (by decide) (v := nI (cs z)) hz.2.2.1.1 dX4_isShut_13 ?_
      refine r_geN hx hb (by omega) (by omega) dX4_isShut_14 (tgt := 128) (by decide) (fun c1 => ?_) (fun c1 => ?_)
      · refine lv_iload hx hb dX4_isShut_128 (lv_at hl 4 rfl) ?_
        exact r_retZ (v := bI (shB z u ch y j)) hx hb hr hlocks (shB z u ch y j) rfl (by rw [show cs z = j by omega]) dX4_isShut_130
      · have hsf := hz.sp c1
        have hsl := hsf.2.2.1.2
        have hsm := hsf.2.2.2.2
        refine lv_bipush (v := nI 28) hx hb dX4_isShut_17 (by decide) ?_
        refine lv_iconst (v := nI 4) hx hb dX4_isShut_19 (by decide) ?_
        refine lv_iload hx hb dX4_isShut_20 (lv_at hl 5 rfl) ?_
        refine r_imulN hx hb dX4_isShut_22 ?_
        refine r_iaddN hx hb dX4_isShut_23 ?_
        refine lv_istore (lv' := [(6, .int (nI (28 + (4 * j)))), (0, .ref d), (1, .int (nI u)), (2, .int ch), (3, .int (nI y)), (4, .int (bI (shB z u ch y j))), (5, .int (nI j))]) hx hb dX4_isShut_24 hl (by decide) rfl (fun ls hl => ?_)
        refine lv_aload_n hx hb dX4_isShut_26 rfl (lv_at hl 1 rfl) ?_
        refine r_get (C := RX4) (T := TX4) (N := 10) hx hb hts iiX4_isShut_4 hown hK h0 rfl 0 (by decide) (hts (.fieldLink RX4 7 "HopMeetModel" "now" "[I") (List.mem_of_getElem? (i := 1) rfl)) rfl dX4_isShut_27 ?_
        refine lv_iload hx hb dX4_isShut_30 (lv_at hl 0 rfl) ?_
        refine r_iald hx hb hK h1 rfl (28 + (4 * j)) (by omega) (by decide) (v := sU z j) rfl dX4_isShut_32 ?_
        refine lv_iconst (v := (-1)) hx hb dX4_isShut_33 (by decide) ?_
        refine lv_icmp_eq (tgt := 48) hx hb dX4_isShut_34 (by decide) (fun c2 => ?_) (fun c2 => ?_)
        · refine lv_iconst (v := nI 1) hx hb dX4_isShut_48 (by decide) ?_
          refine lv_goto (tgt := 53) hx hb dX4_isShut_49 (by decide) ?_
          refine lv_istore (lv' := [(7, .int (nI 1)), (6, .int (nI (28 + (4 * j)))), (0, .ref d), (1, .int (nI u)), (2, .int ch), (3, .int (nI y)), (4, .int (bI (shB z u ch y j))), (5, .int (nI j))]) hx hb dX4_isShut_53 hl (by decide) rfl (fun ls hl => ?_)
          refine lv_iload hx hb dX4_isShut_55 (lv_at hl 6 rfl) ?_
          refine r_ifneB hx hb dX4_isShut_57 (tgt := 115) (by decide) (fun c4 => ?_) (fun c4 => ?_)
          · refine lv_iconst (v := nI 1) hx hb dX4_isShut_115 (by decide) ?_
            refine lv_goto (tgt := 120) hx hb dX4_isShut_116 (by decide) ?_
            refine r_top (y := bI (shB z u ch y (j + 1))) (by first | (rw [shB_mono c4 (Nat.le_succ _)]; rfl) | (rw [shB_yes (sh_yes hsf ⟨c5, by first | exact Or.inl c2 | exact Or.inr c3, by omega, by omega⟩)]; rfl)) ?_
            refine lv_istore (lv' := [(4, .int (bI (shB z u ch y (j + 1)))), (7, .int (nI 1)), (6, .int (nI (28 + (4 * j)))), (0, .ref d), (1, .int (nI u)), (2, .int ch), (3, .int (nI y)), (5, .int (nI j))]) hx hb dX4_isShut_120 hl (by decide) rfl (fun ls hl => ?_)
            refine lv_iinc (v := nI (j + 1)) (lv' := [(5, .int (nI (j + 1))), (4, .int (bI (shB z u ch y (j + 1)))), (7, .int (nI 1)), (6, .int (nI (28 + (4 * j)))), (0, .ref d), (1, .int (nI u)), (2, .int ch), (3, .int (nI y))]) hx hb dX4_isShut_122 hl (k := 7) rfl (nI_1 _) (by decide) rfl (fun ls hl => ?_)
            refine lv_goto (tgt := 6) hx hb dX4_isShut_125 (by decide) ?_
            exact ih6 (j + 1) c1 (by omega) ls (lv_sub hl [4, 5, 6, 7, 1, 0] rfl)
          · refine lv_iload hx hb dX4_isShut_60 (lv_at hl 0 rfl) ?_
            refine r_ifeqN hx hb (by omega) dX4_isShut_62 (tgt := 119) (by decide) (fun c1 => absurd c1 (by decide)) (fun _ => ?_)
            refine lv_aload_n hx hb dX4_isShut_65 rfl (lv_at hl 2 rfl) ?_
            refine r_get (C := RX4) (T := TX4) (N := 10) hx hb hts iiX4_isShut_4 hown hK h0 rfl 0 (by decide) (hts (.fieldLink RX4 7 "HopMeetModel" "now" "[I") (List.mem_of_getElem? (i := 1) rfl)) rfl dX4_isShut_66 ?_
            refine lv_iload hx hb dX4_isShut_69 (lv_at hl 1 rfl) ?_
            refine lv_iconst (v := nI 1) hx hb dX4_isShut_71 (by decide) ?_
            refine r_iaddN hx hb dX4_isShut_72 ?_
            refine r_iald hx hb hK h1 rfl ((28 + (4 * j)) + 1) (by omega) (by decide) (v := nI (sC z j)) hsf.2.1.1 dX4_isShut_73 ?_
            refine lv_iload_n hx hb dX4_isShut_74 rfl (lv_at hl 4 rfl) ?_
            refine lv_icmp_ne (tgt := 119) hx hb dX4_isShut_75 (by decide) (fun c5 => ?_) (fun c5 => ?_)
            · refine lv_iconst (v := nI 0) hx hb dX4_isShut_119 (by decide) ?_
              refine r_top (y := bI (shB z u ch y (j + 1))) (by rw [shB_no c4 (sh_no hsf (fun q => by obtain ⟨q1, q2, q3, q4⟩ := q; first | exact c5 q1 | (rcases q2 with q2 | q2; exact c2 q2; exact c3 q2) | omega))]; rfl) ?_
              refine lv_istore (lv' := [(4, .int (bI (shB z u ch y (j + 1)))), (7, .int (nI 1)), (6, .int (nI (28 + (4 * j)))), (0, .ref d), (1, .int (nI u)), (2, .int ch), (3, .int (nI y)), (5, .int (nI j))]) hx hb dX4_isShut_120 hl (by decide) rfl (fun ls hl => ?_)
              refine lv_iinc (v := nI (j + 1)) (lv' := [(5, .int (nI (j + 1))), (4, .int (bI (shB z u ch y (j + 1)))), (7, .int (nI 1)), (6, .int (nI (28 + (4 * j)))), (0, .ref d), (1, .int (nI u)), (2, .int ch), (3, .int (nI y))]) hx hb dX4_isShut_122 hl (k := 7) rfl (nI_1 _) (by decide) rfl (fun ls hl => ?_)
              refine lv_goto (tgt := 6) hx hb dX4_isShut_125 (by decide) ?_
              exact ih6 (j + 1) c1 (by omega) ls (lv_sub hl [4, 5, 6, 7, 1, 0] rfl)
            · refine lv_iload_n hx hb dX4_isShut_78 rfl (lv_at hl 5 rfl) ?_
              refine lv_aload_n hx hb dX4_isShut_79 rfl (lv_at hl 2 rfl) ?_
              refine r_get (C := RX4) (T := TX4) (N := 10) hx hb hts iiX4_isShut_4 hown hK h0 rfl 0 (by decide) (hts (.fieldLink RX4 7 "HopMeetModel" "now" "[I") (List.mem_of_getElem? (i := 1) rfl)) rfl dX4_isShut_80 ?_
              refine lv_iload hx hb dX4_isShut_83 (lv_at hl 1 rfl) ?_
              refine lv_iconst (v := nI 2) hx hb dX4_isShut_85 (by decide) ?_
              refine r_iaddN hx hb dX4_isShut_86 ?_
              refine r_iald hx hb hK h1 rfl ((28 + (4 * j)) + 2) (by omega) (by decide) (v := nI (sL z j)) hsf.2.2.1.1 dX4_isShut_87 ?_
              refine lv_aload_n hx hb dX4_isShut_88 rfl (lv_at hl 2 rfl) ?_
              refine r_get (C := RX4) (T := TX4) (N := 10) hx hb hts iiX4_isShut_4 hown hK h0 rfl 0 (by decide) (hts (.fieldLink RX4 7 "HopMeetModel" "now" "[I") (List.mem_of_getElem? (i := 1) rfl)) rfl dX4_isShut_89 ?_
              refine lv_iload hx hb dX4_isShut_92 (lv_at hl 1 rfl) ?_
              refine lv_iconst (v := nI 2) hx hb dX4_isShut_94 (by decide) ?_
              refine r_iaddN hx hb dX4_isShut_95 ?_
              refine r_iald hx hb hK h1 rfl ((28 + (4 * j)) + 2) (by omega) (by decide) (v := nI (sL z j)) hsf.2.2.1.1 dX4_isShut_96 ?_
              refine lv_aload_n hx hb dX4_isShut_97 rfl (lv_at hl 2 rfl) ?_
              refine r_get (C := RX4) (T := TX4) (N := 10) hx hb hts iiX4_isShut_4 hown hK h0 rfl 0 (by decide) (hts (.fieldLink RX4 7 "HopMeetModel" "now" "[I") (List.mem_of_getElem? (i := 1) rfl)) rfl dX4_isShut_98 ?_
              refine lv_iload hx hb dX4_isShut_101 (lv_at hl 1 rfl) ?_
              refine lv_iconst (v := nI 3) hx hb dX4_isShut_103 (by decide) ?_
              refine r_iaddN hx hb dX4_isShut_104 ?_
              refine r_iald hx hb hK h1 rfl ((28 + (4 * j)) + 3) (by omega) (by decide) (v := nI (sM z j)) hsf.2.2.2.1 dX4_isShut_105 ?_
              refine r_iaddN hx hb dX4_isShut_106 ?_
              refine lv_iconst (v := nI 1) hx hb dX4_isShut_107 (by decide) ?_
              refine r_isubN hx hb (by omega) dX4_isShut_108 ?_
              refine r_cS (av := [.int (nI y), .int (nI (sL z j)), .int (nI (((sL z j) + (sM z j)) - 1))]) (c_X4_in l G t (nI y) (nI (sL z j)) (nI (sL z j + sM z j - 1))) ⟨hx, hb, hml, hown, hts⟩ (va_cwS 3 hts gX4_isShut_X4_in rfl rfl rfl (by decide +kernel) ⟨Nat.le_of_ble_eq_true rfl, Nat.le_of_ble_eq_true rfl⟩) mv_T trivial rfl hl (Nat.le_of_ble_eq_true rfl) ⟨Nat.le_of_ble_eq_true rfl, Nat.le_of_ble_eq_true rfl⟩ rfl dX4_isShut_109 (fun r2 hr2 => ?_)
              subst hr2
              refine r_ifeqB hx hb dX4_isShut_112 (tgt := 119) (by decide) (fun c6 => ?_) (fun c6 => ?_)
              · rw [inB_N (by omega) (by omega) (by omega)] at c6
                have c7 := of_decide_eq_false c6
                refine lv_iconst (v := nI 0) hx hb dX4_isShut_119 (by decide) ?_
                refine r_top (y := bI (shB z u ch y (j + 1))) (by rw [shB_no c4 (sh_no hsf (fun q => by obtain ⟨q1, q2, q3, q4⟩ := q; first | exact c5 q1 | (rcases q2 with q2 | q2; exact c2 q2; exact c3 q2) | omega))]; rfl) ?_
                refine lv_istore (lv' := [(4, .int (bI (shB z u ch y (j + 1)))), (7, .int (nI 1)), (6, .int (nI (28 + (4 * j)))), (0, .ref d), (1, .int (nI u)), (2, .int ch), (3, .int (nI y)), (5, .int (nI j))]) hx hb dX4_isShut_120 hl (by decide) rfl (fun ls hl => ?_)
                refine lv_iinc (v := nI (j + 1)) (lv' := [(5, .int (nI (j + 1))), (4, .int (bI (shB z u ch y (j + 1)))), (7, .int (nI 1)), (6, .int (nI (28 + (4 * j)))), (0, .ref d), (1, .int (nI u)), (2, .int ch), (3, .int (nI y))]) hx hb dX4_isShut_122 hl (k := 7) rfl (nI_1 _) (by decide) rfl (fun ls hl => ?_)
                refine lv_goto (tgt := 6) hx hb dX4_isShut_125 (by decide) ?_
                exact ih6 (j + 1) c1 (by omega) ls (lv_sub hl [4, 5, 6, 7, 1, 0] rfl)
              · rw [inB_N (by omega) (by omega) (by omega)] at c6
                have c7 := of_decide_eq_true c6
                refine lv_iconst (v := nI 1) hx hb dX4_isShut_115 (by decide) ?_
                refine lv_goto (tgt := 120) hx hb dX4_isShut_116 (by decide) ?_
                refine r_top (y := bI (shB z u ch y (j + 1))) (by first | (rw [shB_mono c4 (Nat.le_succ _)]; rfl) | (rw [shB_yes (sh_yes hsf ⟨c5, by first | exact Or.inl c2 | exact Or.inr c3, by omega, by omega⟩)]; rfl)) ?_
                refine lv_istore (lv' := [(4, .int (bI (shB z u ch y (j + 1)))), (7, .int (nI 1)), (6, .int (nI (28 + (4 * j)))), (0, .ref d), (1, .int (nI u)), (2, .int ch), (3, .int (nI y)), (5, .int (nI j))]) hx hb dX4_isShut_120 hl (by decide) rfl (fun ls hl => ?_)
                refine lv_iinc (v := nI (j + 1)) (lv' := [(5, .int (nI (j + 1))), (4, .int (bI (shB z u ch y (j + 1)))), (7, .int (nI 1)), (6, .int (nI (28 + (4 * j)))), (0, .ref d), (1, .int (nI u)), (2, .int ch), (3, .int (nI y))]) hx hb dX4_isShut_122 hl (k := 7) rfl (nI_1 _) (by decide) rfl (fun ls hl => ?_)
                refine lv_goto (tgt := 6) hx hb dX4_isShut_125 (by decide) ?_
                exact ih6 (j + 1) c1 (by omega) ls (lv_sub hl [4, 5, 6, 7, 1, 0] rfl)
        · refine lv_aload_n hx hb dX4_isShut_37 rfl (lv_at hl 1 rfl) ?_
          refine r_get (C := RX4) (T := TX4) (N := 10) hx hb hts iiX4_isShut_4 hown hK h0 rfl 0 (by decide) (hts (.fieldLink RX4 7 "HopMeetModel" "now" "[I") (List.mem_of_getElem? (i := 1) rfl)) rfl dX4_isShut_38 ?_
          refine lv_iload hx hb dX4_isShut_41 (lv_at hl 0 rfl) ?_
          refine r_iald hx hb hK h1 rfl (28 + (4 * j)) (by omega) (by decide) (v := sU z j) rfl dX4_isShut_43 ?_
          refine lv_iload_n hx hb dX4_isShut_44 rfl (lv_at hl 2 rfl) ?_
          refine lv_icmp_ne (tgt := 52) hx hb dX4_isShut_45 (by decide) (fun c3 => ?_) (fun c3 => ?_)
          · refine lv_iconst (v := nI 0) hx hb dX4_isShut_52 (by decide) ?_
            refine lv_istore (lv' := [(7, .int (nI 0)), (6, .int (nI (28 + (4 * j)))), (0, .ref d), (1, .int (nI u)), (2, .int ch), (3, .int (nI y)), (4, .int (bI (shB z u ch y j))), (5, .int (nI j))]) hx hb dX4_isShut_53 hl (by decide) rfl (fun ls hl => ?_)
            refine lv_iload hx hb dX4_isShut_55 (lv_at hl 6 rfl) ?_
            refine r_ifneB hx hb dX4_isShut_57 (tgt := 115) (by decide) (fun c4 => ?_) (fun c4 => ?_)
            · refine lv_iconst (v := nI 1) hx hb dX4_isShut_115 (by decide) ?_
              refine lv_goto (tgt := 120) hx hb dX4_isShut_116 (by decide) ?_
              refine r_top (y := bI (shB z u ch y (j + 1))) (by first | (rw [shB_mono c4 (Nat.le_succ _)]; rfl) | (rw [shB_yes (sh_yes hsf ⟨c5, by first | exact Or.inl c2 | exact Or.inr c3, by omega, by omega⟩)]; rfl)) ?_
              refine lv_istore (lv' := [(4, .int (bI (shB z u ch y (j + 1)))), (7, .int (nI 0)), (6, .int (nI (28 + (4 * j)))), (0, .ref d), (1, .int (nI u)), (2, .int ch), (3, .int (nI y)), (5, .int (nI j))]) hx hb dX4_isShut_120 hl (by decide) rfl (fun ls hl => ?_)
              refine lv_iinc (v := nI (j + 1)) (lv' := [(5, .int (nI (j + 1))), (4, .int (bI (shB z u ch y (j + 1)))), (7, .int (nI 0)), (6, .int (nI (28 + (4 * j)))), (0, .ref d), (1, .int (nI u)), (2, .int ch), (3, .int (nI y))]) hx hb dX4_isShut_122 hl (k := 7) rfl (nI_1 _) (by decide) rfl (fun ls hl => ?_)
              refine lv_goto (tgt := 6) hx hb dX4_isShut_125 (by decide) ?_
              exact ih6 (j + 1) c1 (by omega) ls (lv_sub hl [4, 5, 6, 7, 1, 0] rfl)
            · refine lv_iload hx hb dX4_isShut_60 (lv_at hl 0 rfl) ?_
              refine r_ifeqN hx hb (by omega) dX4_isShut_62 (tgt := 119) (by decide) (fun _ => ?_) (fun c3 => absurd c3 (by decide))
              refine lv_iconst (v := nI 0) hx hb dX4_isShut_119 (by decide) ?_
              refine r_top (y := bI (shB z u ch y (j + 1))) (by rw [shB_no c4 (sh_no hsf (fun q => by obtain ⟨q1, q2, q3, q4⟩ := q; first | exact c5 q1 | (rcases q2 with q2 | q2; exact c2 q2; exact c3 q2) | omega))]; rfl) ?_
              refine lv_istore (lv' := [(4, .int (bI (shB z u ch y (j + 1)))), (7, .int (nI 0)), (6, .int (nI (28 + (4 * j)))), (0, .ref d), (1, .int (nI u)), (2, .int ch), (3, .int (nI y)), (5, .int (nI j))]) hx hb dX4_isShut_120 hl (by decide) rfl (fun ls hl => ?_)
              refine lv_iinc (v := nI (j + 1)) (lv' := [(5, .int (nI (j + 1))), (4, .int (bI (shB z u ch y (j + 1)))), (7, .int (nI 0)), (6, .int (nI (28 + (4 * j)))), (0, .ref d), (1, .int (nI u)), (2, .int ch), (3, .int (nI y))]) hx hb dX4_isShut_122 hl (k := 7) rfl (nI_1 _) (by decide) rfl (fun ls hl => ?_)
              refine lv_goto (tgt := 6) hx hb dX4_isShut_125 (by decide) ?_
              exact ih6 (j + 1) c1 (by omega) ls (lv_sub hl [4, 5, 6, 7, 1, 0] rfl)
          · refine lv_iconst (v := nI 1) hx hb dX4_isShut_48 (by decide) ?_
            refine lv_goto (tgt := 53) hx hb dX4_isShut_49 (by decide) ?_
            refine lv_istore (lv' := [(7, .int (nI 1)), (6, .int (nI (28 + (4 * j)))), (0, .ref d), (1, .int (nI u)), (2, .int ch), (3, .int (nI y)), (4, .int (bI (shB z u ch y j))), (5, .int (nI j))]) hx hb dX4_isShut_53 hl (by decide) rfl (fun ls hl => ?_)
            refine lv_iload hx hb dX4_isShut_55 (lv_at hl 6 rfl) ?_
            refine r_ifneB hx hb dX4_isShut_57 (tgt := 115) (by decide) (fun c4 => ?_) (fun c4 => ?_)
            · refine lv_iconst (v := nI 1) hx hb dX4_isShut_115 (by decide) ?_
              refine lv_goto (tgt := 120) hx hb dX4_isShut_116 (by decide) ?_
              refine r_top (y := bI (shB z u ch y (j + 1))) (by first | (rw [shB_mono c4 (Nat.le_succ _)]; rfl) | (rw [shB_yes (sh_yes hsf ⟨c5, by first | exact Or.inl c2 | exact Or.inr c3, by omega, by omega⟩)]; rfl)) ?_
              refine lv_istore (lv' := [(4, .int (bI (shB z u ch y (j + 1)))), (7, .int (nI 1)), (6, .int (nI (28 + (4 * j)))), (0, .ref d), (1, .int (nI u)), (2, .int ch), (3, .int (nI y)), (5, .int (nI j))]) hx hb dX4_isShut_120 hl (by decide) rfl (fun ls hl => ?_)
              refine lv_iinc (v := nI (j + 1)) (lv' := [(5, .int (nI (j + 1))), (4, .int (bI (shB z u ch y (j + 1)))), (7, .int (nI 1)), (6, .int (nI (28 + (4 * j)))), (0, .ref d), (1, .int (nI u)), (2, .int ch), (3, .int (nI y))]) hx hb dX4_isShut_122 hl (k := 7) rfl (nI_1 _) (by decide) rfl (fun ls hl => ?_)
              refine lv_goto (tgt := 6) hx hb dX4_isShut_125 (by decide) ?_
              exact ih6 (j + 1) c1 (by omega) ls (lv_sub hl [4, 5, 6, 7, 1, 0] rfl)
            · refine lv_iload hx hb dX4_isShut_60 (lv_at hl 0 rfl) ?_
              refine r_ifeqN hx hb (by omega) dX4_isShut_62 (tgt := 119) (by decide) (fun c4 => absurd c4 (by decide)) (fun _ => ?_)
              refine lv_aload_n hx hb dX4_isShut_65 rfl (lv_at hl 2 rfl) ?_
              refine r_get (C := RX4) (T := TX4) (N := 10) hx hb hts iiX4_isShut_4 hown hK h0 rfl 0 (by decide) (hts (.fieldLink RX4 7 "HopMeetModel" "now" "[I") (List.mem_of_getElem? (i := 1) rfl)) rfl dX4_isShut_66 ?_
              refine lv_iload hx hb dX4_isShut_69 (lv_at hl 1 rfl) ?_
              refine lv_iconst (v := nI 1) hx hb dX4_isShut_71 (by decide) ?_
              refine r_iaddN hx hb dX4_isShut_72 ?_
              refine r_iald hx hb hK h1 rfl ((28 + (4 * j)) + 1) (by omega) (by decide) (v := nI (sC z j)) hsf.2.1.1 dX4_isShut_73 ?_
              refine lv_iload_n hx hb dX4_isShut_74 rfl (lv_at hl 4 rfl) ?_
              refine lv_icmp_ne (tgt := 119) hx hb dX4_isShut_75 (by decide) (fun c5 => ?_) (fun c5 => ?_)
              · refine lv_iconst (v := nI 0) hx hb dX4_isShut_119 (by decide) ?_
                refine r_top (y := bI (shB z u ch y (j + 1))) (by rw [shB_no c4 (sh_no hsf (fun q => by obtain ⟨q1, q2, q3, q4⟩ := q; first | exact c5 q1 | (rcases q2 with q2 | q2; exact c2 q2; exact c3 q2) | omega))]; rfl) ?_
                refine lv_istore (lv' := [(4, .int (bI (shB z u ch y (j + 1)))), (7, .int (nI 1)), (6, .int (nI (28 + (4 * j)))), (0, .ref d), (1, .int (nI u)), (2, .int ch), (3, .int (nI y)), (5, .int (nI j))]) hx hb dX4_isShut_120 hl (by decide) rfl (fun ls hl => ?_)
                refine lv_iinc (v := nI (j + 1)) (lv' := [(5, .int (nI (j + 1))), (4, .int (bI (shB z u ch y (j + 1)))), (7, .int (nI 1)), (6, .int (nI (28 + (4 * j)))), (0, .ref d), (1, .int (nI u)), (2, .int ch), (3, .int (nI y))]) hx hb dX4_isShut_122 hl (k := 7) rfl (nI_1 _) (by decide) rfl (fun ls hl => ?_)
                refine lv_goto (tgt := 6) hx hb dX4_isShut_125 (by decide) ?_
                exact ih6 (j + 1) c1 (by omega) ls (lv_sub hl [4, 5, 6, 7, 1, 0] rfl)
              · refine lv_iload_n hx hb dX4_isShut_78 rfl (lv_at hl 5 rfl) ?_
                refine lv_aload_n hx hb dX4_isShut_79 rfl (lv_at hl 2 rfl) ?_
                refine r_get (C := RX4) (T := TX4) (N := 10) hx hb hts iiX4_isShut_4 hown hK h0 rfl 0 (by decide) (hts (.fieldLink RX4 7 "HopMeetModel" "now" "[I") (List.mem_of_getElem? (i := 1) rfl)) rfl dX4_isShut_80 ?_
                refine lv_iload hx hb dX4_isShut_83 (lv_at hl 1 rfl) ?_
                refine lv_iconst (v := nI 2) hx hb dX4_isShut_85 (by decide) ?_
                refine r_iaddN hx hb dX4_isShut_86 ?_
                refine r_iald hx hb hK h1 rfl ((28 + (4 * j)) + 2) (by omega) (by decide) (v := nI (sL z j)) hsf.2.2.1.1 dX4_isShut_87 ?_
                refine lv_aload_n hx hb dX4_isShut_88 rfl (lv_at hl 2 rfl) ?_
                refine r_get (C := RX4) (T := TX4) (N := 10) hx hb hts iiX4_isShut_4 hown hK h0 rfl 0 (by decide) (hts (.fieldLink RX4 7 "HopMeetModel" "now" "[I") (List.mem_of_getElem? (i := 1) rfl)) rfl dX4_isShut_89 ?_
                refine lv_iload hx hb dX4_isShut_92 (lv_at hl 1 rfl) ?_
                refine lv_iconst (v := nI 2) hx hb dX4_isShut_94 (by decide) ?_
                refine r_iaddN hx hb dX4_isShut_95 ?_
                refine r_iald hx hb hK h1 rfl ((28 + (4 * j)) + 2) (by omega) (by decide) (v := nI (sL z j)) hsf.2.2.1.1 dX4_isShut_96 ?_
                refine lv_aload_n hx hb dX4_isShut_97 rfl (lv_at hl 2 rfl) ?_
                refine r_get (C := RX4) (T := TX4) (N := 10) hx hb hts iiX4_isShut_4 hown hK h0 rfl 0 (by decide) (hts (.fieldLink RX4 7 "HopMeetModel" "now" "[I") (List.mem_of_getElem? (i := 1) rfl)) rfl dX4_isShut_98 ?_
                refine lv_iload hx hb dX4_isShut_101 (lv_at hl 1 rfl) ?_
                refine lv_iconst (v := nI 3) hx hb dX4_isShut_103 (by decide) ?_
                refine r_iaddN hx hb dX4_isShut_104 ?_
                refine r_iald hx hb hK h1 rfl ((28 + (4 * j)) + 3) (by omega) (by decide) (v := nI (sM z j)) hsf.2.2.2.1 dX4_isShut_105 ?_
                refine r_iaddN hx hb dX4_isShut_106 ?_
                refine lv_iconst (v := nI 1) hx hb dX4_isShut_107 (by decide) ?_
                refine r_isubN hx hb (by omega) dX4_isShut_108 ?_
                refine r_cS (av := [.int (nI y), .int (nI (sL z j)), .int (nI (((sL z j) + (sM z j)) - 1))]) (c_X4_in l G t (nI y) (nI (sL z j)) (nI (sL z j + sM z j - 1))) ⟨hx, hb, hml, hown, hts⟩ (va_cwS 3 hts gX4_isShut_X4_in rfl rfl rfl (by decide +kernel) ⟨Nat.le_of_ble_eq_true rfl, Nat.le_of_ble_eq_true rfl⟩) mv_T trivial rfl hl (Nat.le_of_ble_eq_true rfl) ⟨Nat.le_of_ble_eq_true rfl, Nat.le_of_ble_eq_true rfl⟩ rfl dX4_isShut_109 (fun r5 hr5 => ?_)
                subst hr5
                refine r_ifeqB hx hb dX4_isShut_112 (tgt := 119) (by decide) (fun c6 => ?_) (fun c6 => ?_)
                · rw [inB_N (by omega) (by omega) (by omega)] at c6
                  have c7 := of_decide_eq_false c6
                  refine lv_iconst (v := nI 0) hx hb dX4_isShut_119 (by decide) ?_
                  refine r_top (y := bI (shB z u ch y (j + 1))) (by rw [shB_no c4 (sh_no hsf (fun q => by obtain ⟨q1, q2, q3, q4⟩ := q; first | exact c5 q1 | (rcases q2 with q2 | q2; exact c2 q2; exact c3 q2) | omega))]; rfl) ?_
                  refine lv_istore (lv' := [(4, .int (bI (shB z u ch y (j + 1)))), (7, .int (nI 1)), (6, .int (nI (28 + (4 * j)))), (0, .ref d), (1, .int (nI u)), (2, .int ch), (3, .int (nI y)), (5, .int (nI j))]) hx hb dX4_isShut_120 hl (by decide) rfl (fun ls hl => ?_)
                  refine lv_iinc (v := nI (j + 1)) (lv' := [(5, .int (nI (j + 1))), (4, .int (bI (shB z u ch y (j + 1)))), (7, .int (nI 1)), (6, .int (nI (28 + (4 * j)))), (0, .ref d), (1, .int (nI u)), (2, .int ch), (3, .int (nI y))]) hx hb dX4_isShut_122 hl (k := 7) rfl (nI_1 _) (by decide) rfl (fun ls hl => ?_)
                  refine lv_goto (tgt := 6) hx hb dX4_isShut_125 (by decide) ?_
                  exact ih6 (j + 1) c1 (by omega) ls (lv_sub hl [4, 5, 6, 7, 1, 0] rfl)
                · rw [inB_N (by omega) (by omega) (by omega)] at c6
                  have c7 := of_decide_eq_true c6
                  refine lv_iconst (v := nI 1) hx hb dX4_isShut_115 (by decide) ?_
                  refine lv_goto (tgt := 120) hx hb dX4_isShut_116 (by decide) ?_
                  refine r_top (y := bI (shB z u ch y (j + 1))) (by first | (rw [shB_mono c4 (Nat.le_succ _)]; rfl) | (rw [shB_yes (sh_yes hsf ⟨c5, by first | exact Or.inl c2 | exact Or.inr c3, by omega, by omega⟩)]; rfl)) ?_
                  refine lv_istore (lv' := [(4, .int (bI (shB z u ch y (j + 1)))), (7, .int (nI 1)), (6, .int (nI (28 + (4 * j)))), (0, .ref d), (1, .int (nI u)), (2, .int ch), (3, .int (nI y)), (5, .int (nI j))]) hx hb dX4_isShut_120 hl (by decide) rfl (fun ls hl => ?_)
                  refine lv_iinc (v := nI (j + 1)) (lv' := [(5, .int (nI (j + 1))), (4, .int (bI (shB z u ch y (j + 1)))), (7, .int (nI 1)), (6, .int (nI (28 + (4 * j)))), (0, .ref d), (1, .int (nI u)), (2, .int ch), (3, .int (nI y))]) hx hb dX4_isShut_122 hl (k := 7) rfl (nI_1 _) (by decide) rfl (fun ls hl => ?_)
                  refine lv_goto (tgt := 6) hx hb dX4_isShut_125 (by decide) ?_
                  exact ih6 (j + 1) c1 (by omega) ls (lv_sub hl [4, 5, 6, 7, 1, 0] rfl)
  exact loop6 _ 0 (Nat.zero_le _) (Nat.lt_succ_self _) ls (lv_sub hl [2, 3, 4, 5, 1, 0] rfl)

set_option maxRecDepth 20000 in
theorem iiX4_whyNot_4 : ∀ w ∈ wsX40, w ∈ wsX4_whyNot := by decide +kernel
set_option maxHeartbeats 4000000 in
set_option maxRecDepth 100000 in
/-- why a user is nowhere -/
theorem c_X4_whyNot (l : Launch) (G : va_G) (t : gT) (d : Nat) (z : Nat → Int32) (hz : WF z) (u y : Nat) (hu : u < cu z) (hy : y ≤ 5000) : Met l yX4_whyNot wsX4_whyNot ({ frames := 3, cells := 0, slots := 0, locals := 77 } : Room) (pc_ [.ref d, .int (nI u), .int (nI y)] (fun U H => KK G t U ∧ Mn G t d z H)) (vp_Si (fun r => r = whC z u y)) 0 0 (fun _ => False) := by
  refine Met.ofW (cc := cX4_whyNot) (maxL := 4) (ret := (some .int)) (by decide) rfl ?_
  intro p e s m args below meth c s₁ B hml hv
  obtain ⟨rfl, hB⟩ := hv
  have hx := B.exec
  have hb := B.bytes
  have hr := B.returns
  have hts := atoms_spec (ws := wsX4_whyNot) B.pre
  have hown : s.vm.findClass RX4 = some m.cls := findClass_of_methodNamed B.named
  have hlocks := B.notSynchronized
  have hK := hB.1
  obtain ⟨bc, sl, lo, h0, h1⟩ := hB.2
  have hn := hz.n
  have hu5 := hz.u5
  have hs8 := hz.s8
  have hp := prN_in (cn z)
  have huf := hz.us hu
  have b1 := huf.1.2
  have b2 := huf.2.1.2
  have b3 := huf.2.2.1.2
  have b4 := huf.2.2.2.1.2
  have b5 := hz.o hu
  have hl := lv_entry ([.ref d, .int (nI u), .int (nI y)]) (n := 4) (Nat.le_of_ble_eq_true rfl)
  rw [lg_entry_eq]
  generalize (lg_sl ([.ref d, .int (nI u), .int (nI y)]) ++ List.replicate (4 - (lg_sl ([.ref d, .int (nI u), .int (nI y)])).length) Slot.unset).toArray = ls at hl ⊢
  have hl : lv_has ls 4 [(0, .ref d), (1, .int (nI u)), (2, .int (nI y))] := hl
  refine lv_iload_n hx hb dX4_whyNot_0 rfl (lv_at hl 2 rfl) ?_
  refine lv_aload_n hx hb dX4_whyNot_1 rfl (lv_at hl 0 rfl) ?_
  refine lv_iload_n hx hb dX4_whyNot_2 rfl (lv_at hl 1 rfl) ?_
  refine lv_iconst (v := nI 3) hx hb dX4_whyNot_3 (by decide) ?_
  refine r_cV (av := [.int (nI u), .int (nI 3)]) (c_X4_of l G t d z hz u 3 (by omega) (by decide)) ⟨hx, hb, hml, hown, hts⟩ (cwV 2 hts gX4_whyNot_X4_of rfl rfl rfl (by decide +kernel) ⟨Nat.le_of_ble_eq_true rfl, Nat.le_of_ble_eq_true rfl⟩) mv_K hB (at_recv hK h0 rfl) rfl hl (Nat.le_of_ble_eq_true rfl) ⟨Nat.le_of_ble_eq_true rfl, Nat.le_of_ble_eq_true rfl⟩ rfl dX4_whyNot_4 (fun r1 hr1 => ?_)
  subst hr1
  refine r_top (y := nI (uW z u)) huf.2.2.2.1.1 ?_
  rcases Nat.lt_or_ge y (uW z u) with hw | hw
  · refine lv_isub hx hb dX4_whyNot_7 ?_
    refine lv_istore_n (lv' := [(3, .int ((nI y) - (nI (uW z u)))), (0, .ref d), (1, .int (nI u)), (2, .int (nI y))]) hx hb dX4_whyNot_8 rfl hl (by decide) rfl (fun ls hl => ?_)
    refine lv_iload_n hx hb dX4_whyNot_9 rfl (lv_at hl 0 rfl) ?_
    refine lv_if_ge (tgt := 15) hx hb dX4_whyNot_10 (by decide) (fun c1 => ?_) (fun c1 => ?_)
    · exact (i_neg_ge (pk_sneg (by omega) hw) c1).elim
    · refine lv_iconst (v := nI 1) hx hb dX4_whyNot_13 (by decide) ?_
      exact r_retS (v := nI 1) hx hb hr hlocks (whC_w hw).symm dX4_whyNot_14
  · refine r_isubN hx hb hw dX4_whyNot_7 ?_
    refine lv_istore_n (lv' := [(3, .int (nI (y - (uW z u)))), (0, .ref d), (1, .int (nI u)), (2, .int (nI y))]) hx hb dX4_whyNot_8 rfl hl (by decide) rfl (fun ls hl => ?_)
    refine lv_iload_n hx hb dX4_whyNot_9 rfl (lv_at hl 0 rfl) ?_
    refine lv_if_ge (tgt := 15) hx hb dX4_whyNot_10 (by decide) (fun _ => ?_) (fun c1 => absurd (nI_pos' (by omega)) c1)
    refine lv_aload_n hx hb dX4_whyNot_15 rfl (lv_at hl 1 rfl) ?_
    refine lv_iload_n hx hb dX4_whyNot_16 rfl (lv_at hl 2 rfl) ?_
    refine lv_iconst (v := nI 4) hx hb dX4_whyNot_17 (by decide) ?_
    refine r_cV (av := [.int (nI u), .int (nI 4)]) (c_X4_of l G t d z hz u 4 (by omega) (by decide)) ⟨hx, hb, hml, hown, hts⟩ (cwV 2 hts gX4_whyNot_X4_of rfl rfl rfl (by decide +kernel) ⟨Nat.le_of_ble_eq_true rfl, Nat.le_of_ble_eq_true rfl⟩) mv_K hB (at_recv hK h0 rfl) rfl hl (Nat.le_of_ble_eq_true rfl) ⟨Nat.le_of_ble_eq_true rfl, Nat.le_of_ble_eq_true rfl⟩ rfl dX4_whyNot_18 (fun r2 hr2 => ?_)
    subst hr2
    refine r_top (y := nI (uO z u)) huf.2.2.2.2.1 ?_
    refine r_ifneN hx hb (by omega) dX4_whyNot_21 (tgt := 28) (by decide) (fun c2 => ?_) (fun c2 => ?_)
    · refine lv_aload_n hx hb dX4_whyNot_28 rfl (lv_at hl 1 rfl) ?_
      refine lv_iload_n hx hb dX4_whyNot_29 rfl (lv_at hl 2 rfl) ?_
      refine lv_aload_n hx hb dX4_whyNot_30 rfl (lv_at hl 1 rfl) ?_
      refine lv_iload_n hx hb dX4_whyNot_31 rfl (lv_at hl 2 rfl) ?_
      refine lv_iload_n hx hb dX4_whyNot_32 rfl (lv_at hl 0 rfl) ?_
      refine r_cV (av := [.int (nI u), .int (nI (y - (uW z u)))]) (c_X4_lands l G t d z hz u (y - uW z u) hu (by omega)) ⟨hx, hb, hml, hown, hts⟩ (cwV 2 hts gX4_whyNot_X4_lands rfl rfl rfl (by decide +kernel) ⟨Nat.le_of_ble_eq_true rfl, Nat.le_of_ble_eq_true rfl⟩) mv_K hB (at_recv hK h0 rfl) rfl hl (Nat.le_of_ble_eq_true rfl) ⟨Nat.le_of_ble_eq_true rfl, Nat.le_of_ble_eq_true rfl⟩ rfl dX4_whyNot_33 (fun r3 hr3 => ?_)
      subst hr3
      refine lv_iload_n hx hb dX4_whyNot_36 rfl (lv_at hl 3 rfl) ?_
      refine r_cV (av := [.int (nI u), .int (plN z u (y - uW z u)), .int (nI y)]) (c_X4_isShut l G t d z hz u y (plN z u (y - uW z u)) hu hy) ⟨hx, hb, hml, hown, hts⟩ (cwV 3 hts gX4_whyNot_X4_isShut rfl rfl rfl (by decide +kernel) ⟨Nat.le_of_ble_eq_true rfl, Nat.le_of_ble_eq_true rfl⟩) mv_K hB (at_recv hK h0 rfl) rfl hl (Nat.le_of_ble_eq_true rfl) ⟨Nat.le_of_ble_eq_true rfl, Nat.le_of_ble_eq_true rfl⟩ rfl dX4_whyNot_37 (fun r4 hr4 => ?_)
      subst hr4
      refine r_ifeqB hx hb dX4_whyNot_40 (tgt := 47) (by decide) (fun c3 => ?_) (fun c3 => ?_)
      · refine lv_iconst (v := nI 0) hx hb dX4_whyNot_47 (by decide) ?_
        exact r_retS (v := nI 0) hx hb hr hlocks (whC_2 hw c2 c3).symm dX4_whyNot_48
      · refine lv_iconst (v := nI 3) hx hb dX4_whyNot_43 (by decide) ?_
        refine lv_goto (tgt := 48) hx hb dX4_whyNot_44 (by decide) ?_
        exact r_retS (v := nI 3) hx hb hr hlocks (whC_1 hw c2 c3).symm dX4_whyNot_48
    · refine lv_iconst (v := nI 2) hx hb dX4_whyNot_24 (by decide) ?_
      refine lv_goto (tgt := 48) hx hb dX4_whyNot_25 (by decide) ?_
      exact r_retS (v := nI 2) hx hb hr hlocks (whC_0 hw c2).symm dX4_whyNot_48

set_option maxRecDepth 20000 in
theorem iiX4_place_4 : ∀ w ∈ wsX40, w ∈ wsX4_place := by decide +kernel
set_option maxHeartbeats 4000000 in
set_option maxRecDepth 100000 in
/-- where a user is at a slot -/
theorem c_X4_place (l : Launch) (G : va_G) (t : gT) (d : Nat) (z : Nat → Int32) (hz : WF z) (u y : Nat) (hu : u < cu z) (hy : y ≤ 5000) : Met l yX4_place wsX4_place ({ frames := 4, cells := 0, slots := 0, locals := 100 } : Room) (pc_ [.ref d, .int (nI u), .int (nI y)] (fun U H => KK G t U ∧ Mn G t d z H)) (vp_Si (fun r => r = plC z u y)) 0 0 (fun _ => False) := by
  refine Met.ofW (cc := cX4_place) (maxL := 3) (ret := (some .int)) (by decide) rfl ?_
  intro p e s m args below meth c s₁ B hml hv
  obtain ⟨rfl, hB⟩ := hv
  have hx := B.exec
  have hb := B.bytes
  have hr := B.returns
  have hts := atoms_spec (ws := wsX4_place) B.pre
  have hown : s.vm.findClass RX4 = some m.cls := findClass_of_methodNamed B.named
  have hlocks := B.notSynchronized
  have hK := hB.1
  obtain ⟨bc, sl, lo, h0, h1⟩ := hB.2
  have hn := hz.n
  have hu5 := hz.u5
  have hs8 := hz.s8
  have hp := prN_in (cn z)
  have huf := hz.us hu
  have b1 := huf.1.2
  have b2 := huf.2.1.2
  have b3 := huf.2.2.1.2
  have b4 := huf.2.2.2.1.2
  have b5 := hz.o hu
  have hl := lv_entry ([.ref d, .int (nI u), .int (nI y)]) (n := 3) (Nat.le_of_ble_eq_true rfl)
  rw [lg_entry_eq]
  generalize (lg_sl ([.ref d, .int (nI u), .int (nI y)]) ++ List.replicate (3 - (lg_sl ([.ref d, .int (nI u), .int (nI y)])).length) Slot.unset).toArray = ls at hl ⊢
  have hl : lv_has ls 3 [(0, .ref d), (1, .int (nI u)), (2, .int (nI y))] := hl
  refine lv_aload_n hx hb dX4_place_0 rfl (lv_at hl 0 rfl) ?_
  refine lv_iload_n hx hb dX4_place_1 rfl (lv_at hl 1 rfl) ?_
  refine lv_iload_n hx hb dX4_place_2 rfl (lv_at hl 2 rfl) ?_
  refine r_cV (av := [.int (nI u), .int (nI y)]) (c_X4_whyNot l G t d z hz u y hu hy) ⟨hx, hb, hml, hown, hts⟩ (cwV 2 hts gX4_place_X4_whyNot rfl rfl rfl (by decide +kernel) ⟨Nat.le_of_ble_eq_true rfl, Nat.le_of_ble_eq_true rfl⟩) mv_K hB (at_recv hK h0 rfl) rfl hl (Nat.le_of_ble_eq_true rfl) ⟨Nat.le_of_ble_eq_true rfl, Nat.le_of_ble_eq_true rfl⟩ rfl dX4_place_3 (fun r1 hr1 => ?_)
  subst hr1
  refine lv_if_ne (tgt := 25) hx hb dX4_place_6 (by decide) (fun c1 => ?_) (fun c1 => ?_)
  · refine lv_iconst (v := (-1)) hx hb dX4_place_25 (by decide) ?_
    exact r_retS (v := (-1)) hx hb hr hlocks (whC_nz c1).symm dX4_place_26
  · obtain ⟨hw, w2, w3⟩ := whC_z c1
    refine lv_aload_n hx hb dX4_place_9 rfl (lv_at hl 0 rfl) ?_
    refine lv_iload_n hx hb dX4_place_10 rfl (lv_at hl 1 rfl) ?_
    refine lv_iload_n hx hb dX4_place_11 rfl (lv_at hl 2 rfl) ?_
    refine lv_aload_n hx hb dX4_place_12 rfl (lv_at hl 0 rfl) ?_
    refine lv_iload_n hx hb dX4_place_13 rfl (lv_at hl 1 rfl) ?_
    refine lv_iconst (v := nI 3) hx hb dX4_place_14 (by decide) ?_
    refine r_cV (av := [.int (nI u), .int (nI 3)]) (c_X4_of l G t d z hz u 3 (by omega) (by decide)) ⟨hx, hb, hml, hown, hts⟩ (cwV 2 hts gX4_place_X4_of rfl rfl rfl (by decide +kernel) ⟨Nat.le_of_ble_eq_true rfl, Nat.le_of_ble_eq_true rfl⟩) mv_K hB (at_recv hK h0 rfl) rfl hl (Nat.le_of_ble_eq_true rfl) ⟨Nat.le_of_ble_eq_true rfl, Nat.le_of_ble_eq_true rfl⟩ rfl dX4_place_15 (fun r2 hr2 => ?_)
    subst hr2
    refine r_top (y := nI (uW z u)) huf.2.2.2.1.1 ?_
    refine r_isubN hx hb hw dX4_place_18 ?_
    refine r_cV (av := [.int (nI u), .int (nI (y - (uW z u)))]) (c_X4_lands l G t d z hz u (y - uW z u) hu (by omega)) ⟨hx, hb, hml, hown, hts⟩ (cwV 2 hts gX4_place_X4_lands rfl rfl rfl (by decide +kernel) ⟨Nat.le_of_ble_eq_true rfl, Nat.le_of_ble_eq_true rfl⟩) mv_K hB (at_recv hK h0 rfl) rfl hl (Nat.le_of_ble_eq_true rfl) ⟨Nat.le_of_ble_eq_true rfl, Nat.le_of_ble_eq_true rfl⟩ rfl dX4_place_19 (fun r3 hr3 => ?_)
    subst hr3
    refine lv_goto (tgt := 26) hx hb dX4_place_22 (by decide) ?_
    exact r_retS (v := plN z u (y - uW z u)) hx hb hr hlocks (plC_2 hw w3).symm dX4_place_26

set_option maxRecDepth 20000 in
theorem iiX4_isMet_4 : ∀ w ∈ wsX40, w ∈ wsX4_isMet := by decide +kernel
set_option maxHeartbeats 4000000 in
set_option maxRecDepth 100000 in
/-- whether two meet in a slot -/
theorem c_X4_isMet (l : Launch) (G : va_G) (t : gT) (d : Nat) (z : Nat → Int32) (hz : WF z) (u v y : Nat) (hu : u < cu z) (hv0 : v < cu z) (hy : y ≤ 5000) : Met l yX4_isMet wsX4_isMet ({ frames := 5, cells := 0, slots := 0, locals := 122 } : Room) (pc_ [.ref d, .int (nI u), .int (nI v), .int (nI y)] (fun U H => KK G t U ∧ Mn G t d z H)) (vp_Si (fun r => r = bI (meB z u v y))) 0 0 (fun _ => False) := by
  refine Met.ofW (cc := cX4_isMet) (maxL := 5) (ret := (some .boolean)) (by decide) rfl ?_
  intro p e s m args below meth c s₁ B hml hv
  obtain ⟨rfl, hB⟩ := hv
  have hx := B.exec
  have hb := B.bytes
  have hr := B.returns
  have hts := atoms_spec (ws := wsX4_isMet) B.pre
  have hown : s.vm.findClass RX4 = some m.cls := findClass_of_methodNamed B.named
  have hlocks := B.notSynchronized
  have hK := hB.1
  obtain ⟨bc, sl, lo, h0, h1⟩ := hB.2
  have hn := hz.n
  have hu5 := hz.u5
  have hs8 := hz.s8
  have hp := prN_in (cn z)
  have hl := lv_entry ([.ref d, .int (nI u), .int (nI v), .int (nI y)]) (n := 5) (Nat.le_of_ble_eq_true rfl)
  rw [lg_entry_eq]
  generalize (lg_sl ([.ref d, .int (nI u), .int (nI v), .int (nI y)]) ++ List.replicate (5 - (lg_sl ([.ref d, .int (nI u), .int (nI v), .int (nI y)])).length) Slot.unset).toArray = ls at hl ⊢
  have hl : lv_has ls 5 [(0, .ref d), (1, .int (nI u)), (2, .int (nI v)), (3, .int (nI y))] := hl
  refine lv_aload_n hx hb dX4_isMet_0 rfl (lv_at hl 0 rfl) ?_
  refine lv_iload_n hx hb dX4_isMet_1 rfl (lv_at hl 1 rfl) ?_
  refine lv_iload_n hx hb dX4_isMet_2 rfl (lv_at hl 3 rfl) ?_
  refine r_cV (av := [.int (nI u), .int (nI y)]) (c_X4_place l G t d z hz u y hu hy) ⟨hx, hb, hml, hown, hts⟩ (cwV 2 hts gX4_isMet_X4_place rfl rfl rfl (by decide +kernel) ⟨Nat.le_of_ble_eq_true rfl, Nat.le_of_ble_eq_true rfl⟩) mv_K hB (at_recv hK h0 rfl) rfl hl (Nat.le_of_ble_eq_true rfl) ⟨Nat.le_of_ble_eq_true rfl, Nat.le_of_ble_eq_true rfl⟩ rfl dX4_isMet_3 (fun r1 hr1 => ?_)
  subst hr1
  refine lv_istore (lv' := [(4, .int (plC z u y)), (0, .ref d), (1, .int (nI u)), (2, .int (nI v)), (3, .int (nI y))]) hx hb dX4_isMet_6 hl (by decide) rfl (fun ls hl => ?_)
  refine lv_iload hx hb dX4_isMet_8 (lv_at hl 0 rfl) ?_
  refine lv_iconst (v := (-1)) hx hb dX4_isMet_10 (by decide) ?_
  refine lv_icmp_eq (tgt := 29) hx hb dX4_isMet_11 (by decide) (fun c1 => ?_) (fun c1 => ?_)
  · refine lv_iconst (v := nI 0) hx hb dX4_isMet_29 (by decide) ?_
    exact r_retZ (v := nI 0) hx hb hr hlocks false rfl (by rw [show meB z u v y = false from decide_eq_false (fun q => by first | exact q.1 c1 | exact c2 q.2)]; rfl) dX4_isMet_30
  · refine lv_iload hx hb dX4_isMet_14 (lv_at hl 0 rfl) ?_
    refine lv_aload_n hx hb dX4_isMet_16 rfl (lv_at hl 1 rfl) ?_
    refine lv_iload_n hx hb dX4_isMet_17 rfl (lv_at hl 3 rfl) ?_
    refine lv_iload_n hx hb dX4_isMet_18 rfl (lv_at hl 4 rfl) ?_
    refine r_cV (av := [.int (nI v), .int (nI y)]) (c_X4_place l G t d z hz v y hv0 hy) ⟨hx, hb, hml, hown, hts⟩ (cwV 2 hts gX4_isMet_X4_place rfl rfl rfl (by decide +kernel) ⟨Nat.le_of_ble_eq_true rfl, Nat.le_of_ble_eq_true rfl⟩) mv_K hB (at_recv hK h0 rfl) rfl hl (Nat.le_of_ble_eq_true rfl) ⟨Nat.le_of_ble_eq_true rfl, Nat.le_of_ble_eq_true rfl⟩ rfl dX4_isMet_19 (fun r2 hr2 => ?_)
    subst hr2
    refine lv_icmp_ne (tgt := 29) hx hb dX4_isMet_22 (by decide) (fun c2 => ?_) (fun c2 => ?_)
    · refine lv_iconst (v := nI 0) hx hb dX4_isMet_29 (by decide) ?_
      exact r_retZ (v := nI 0) hx hb hr hlocks false rfl (by rw [show meB z u v y = false from decide_eq_false (fun q => by first | exact q.1 c1 | exact c2 q.2)]; rfl) dX4_isMet_30
    · refine lv_iconst (v := nI 1) hx hb dX4_isMet_25 (by decide) ?_
      refine lv_goto (tgt := 30) hx hb dX4_isMet_26 (by decide) ?_
      exact r_retZ (v := nI 1) hx hb hr hlocks true rfl (by rw [show meB z u v y = true from decide_eq_true ⟨c1, c2⟩]; rfl) dX4_isMet_30

set_option maxRecDepth 20000 in
theorem iiX4_isUser_4 : ∀ w ∈ wsX40, w ∈ wsX4_isUser := by decide +kernel
set_option maxHeartbeats 4000000 in
set_option maxRecDepth 100000 in
/-- whether there is such a user -/
theorem c_X4_isUser (l : Launch) (G : va_G) (t : gT) (d : Nat) (z : Nat → Int32) (hz : WF z) (u : Int32) : Met l yX4_isUser wsX4_isUser ({ frames := 1, cells := 0, slots := 0, locals := 22 } : Room) (pc_ [.ref d, .int u] (fun U H => KK G t U ∧ Mn G t d z H)) (vp_Si (fun r => r = bI (usB z u))) 0 0 (fun _ => False) := by
  refine Met.ofW (cc := cX4_isUser) (maxL := 2) (ret := (some .boolean)) (by decide) rfl ?_
  intro p e s m args below meth c s₁ B hml hv
  obtain ⟨rfl, hB⟩ := hv
  have hx := B.exec
  have hb := B.bytes
  have hr := B.returns
  have hts := atoms_spec (ws := wsX4_isUser) B.pre
  have hown : s.vm.findClass RX4 = some m.cls := findClass_of_methodNamed B.named
  have hlocks := B.notSynchronized
  have hK := hB.1
  obtain ⟨bc, sl, lo, h0, h1⟩ := hB.2
  have hn := hz.n
  have hu5 := hz.u5
  have hs8 := hz.s8
  have hp := prN_in (cn z)
  have hl := lv_entry ([.ref d, .int u]) (n := 2) (Nat.le_of_ble_eq_true rfl)
  rw [lg_entry_eq]
  generalize (lg_sl ([.ref d, .int u]) ++ List.replicate (2 - (lg_sl ([.ref d, .int u])).length) Slot.unset).toArray = ls at hl ⊢
  have hl : lv_has ls 2 [(0, .ref d), (1, .int u)] := hl
  refine lv_iload_n hx hb dX4_isUser_0 rfl (lv_at hl 1 rfl) ?_
  refine lv_iconst (v := nI 0) hx hb dX4_isUser_1 (by decide) ?_
  refine lv_aload_n hx hb dX4_isUser_2 rfl (lv_at hl 0 rfl) ?_
  refine r_get (C := RX4) (T := TX4) (N := 10) hx hb hts iiX4_isUser_4 hown hK h0 rfl 0 (by decide) (hts (.fieldLink RX4 7 "HopMeetModel" "now" "[I") (List.mem_of_getElem? (i := 1) rfl)) rfl dX4_isUser_3 ?_
  refine lv_iconst (v := nI 1) hx hb dX4_isUser_6 (by decide) ?_
  refine r_iald hx hb hK h1 rfl 1 (by omega) (by decide) (v := nI (cu z)) hz.2.1.1 dX4_isUser_7 ?_
  refine lv_iconst (v := nI 1) hx hb dX4_isUser_8 (by decide) ?_
  refine lv_isub hx hb dX4_isUser_9 ?_
  refine r_cS (av := [.int u, .int (nI 0), .int ((nI (cu z)) - (nI 1))]) (c_X4_in l G t u (nI 0) (nI (cu z) - nI 1)) ⟨hx, hb, hml, hown, hts⟩ (va_cwS 3 hts gX4_isUser_X4_in rfl rfl rfl (by decide +kernel) ⟨Nat.le_of_ble_eq_true rfl, Nat.le_of_ble_eq_true rfl⟩) mv_T trivial rfl hl (Nat.le_of_ble_eq_true rfl) ⟨Nat.le_of_ble_eq_true rfl, Nat.le_of_ble_eq_true rfl⟩ rfl dX4_isUser_10 (fun r1 hr1 => ?_)
  subst hr1
  exact r_retZ (v := bI (inB u (nI 0) (nI (cu z) - nI 1))) hx hb hr hlocks (inB u (nI 0) (nI (cu z) - nI 1)) rfl (by rw [usB_in hz]) dX4_isUser_13

set_option maxRecDepth 20000 in
theorem iiX4_areTwo_4 : ∀ w ∈ wsX40, w ∈ wsX4_areTwo := by decide +kernel
set_option maxHeartbeats 4000000 in
set_option maxRecDepth 100000 in
/-- whether there are two such users -/
theorem c_X4_areTwo (l : Launch) (G : va_G) (t : gT) (d : Nat) (z : Nat → Int32) (hz : WF z) (u v : Int32) : Met l yX4_areTwo wsX4_areTwo ({ frames := 2, cells := 0, slots := 0, locals := 43 } : Room) (pc_ [.ref d, .int u, .int v] (fun U H => KK G t U ∧ Mn G t d z H)) (vp_Si (fun r => r = bI (twB z u v))) 0 0 (fun _ => False) := by
  refine Met.ofW (cc := cX4_areTwo) (maxL := 3) (ret := (some .boolean)) (by decide) rfl ?_
  intro p e s m args below meth c s₁ B hml hv
  obtain ⟨rfl, hB⟩ := hv
  have hx := B.exec
  have hb := B.bytes
  have hr := B.returns
  have hts := atoms_spec (ws := wsX4_areTwo) B.pre
  have hown : s.vm.findClass RX4 = some m.cls := findClass_of_methodNamed B.named
  have hlocks := B.notSynchronized
  have hK := hB.1
  obtain ⟨bc, sl, lo, h0, h1⟩ := hB.2
  have hn := hz.n
  have hu5 := hz.u5
  have hs8 := hz.s8
  have hp := prN_in (cn z)
  have hl := lv_entry ([.ref d, .int u, .int v]) (n := 3) (Nat.le_of_ble_eq_true rfl)
  rw [lg_entry_eq]
  generalize (lg_sl ([.ref d, .int u, .int v]) ++ List.replicate (3 - (lg_sl ([.ref d, .int u, .int v])).length) Slot.unset).toArray = ls at hl ⊢
  have hl : lv_has ls 3 [(0, .ref d), (1, .int u), (2, .int v)] := hl
  refine lv_aload_n hx hb dX4_areTwo_0 rfl (lv_at hl 0 rfl) ?_
  refine lv_iload_n hx hb dX4_areTwo_1 rfl (lv_at hl 1 rfl) ?_
  refine r_cV (av := [.int u]) (c_X4_isUser l G t d z hz u) ⟨hx, hb, hml, hown, hts⟩ (cwV 1 hts gX4_areTwo_X4_isUser rfl rfl rfl (by decide +kernel) ⟨Nat.le_of_ble_eq_true rfl, Nat.le_of_ble_eq_true rfl⟩) mv_K hB (at_recv hK h0 rfl) rfl hl (Nat.le_of_ble_eq_true rfl) ⟨Nat.le_of_ble_eq_true rfl, Nat.le_of_ble_eq_true rfl⟩ rfl dX4_areTwo_2 (fun r1 hr1 => ?_)
  subst hr1
  refine r_ifeqB hx hb dX4_areTwo_5 (tgt := 25) (by decide) (fun c1 => ?_) (fun c1 => ?_)
  · refine lv_iconst (v := nI 0) hx hb dX4_areTwo_25 (by decide) ?_
    exact r_retZ (v := nI 0) hx hb hr hlocks false rfl (by first | (rw [tw_n1 c1]; rfl) | (rw [tw_n2 c2]; rfl) | (rw [tw_n3 c3]; rfl)) dX4_areTwo_26
  · refine lv_aload_n hx hb dX4_areTwo_8 rfl (lv_at hl 0 rfl) ?_
    refine lv_iload_n hx hb dX4_areTwo_9 rfl (lv_at hl 2 rfl) ?_
    refine r_cV (av := [.int v]) (c_X4_isUser l G t d z hz v) ⟨hx, hb, hml, hown, hts⟩ (cwV 1 hts gX4_areTwo_X4_isUser rfl rfl rfl (by decide +kernel) ⟨Nat.le_of_ble_eq_true rfl, Nat.le_of_ble_eq_true rfl⟩) mv_K hB (at_recv hK h0 rfl) rfl hl (Nat.le_of_ble_eq_true rfl) ⟨Nat.le_of_ble_eq_true rfl, Nat.le_of_ble_eq_true rfl⟩ rfl dX4_areTwo_10 (fun r2 hr2 => ?_)
    subst hr2
    refine r_ifeqB hx hb dX4_areTwo_13 (tgt := 25) (by decide) (fun c2 => ?_) (fun c2 => ?_)
    · refine lv_iconst (v := nI 0) hx hb dX4_areTwo_25 (by decide) ?_
      exact r_retZ (v := nI 0) hx hb hr hlocks false rfl (by first | (rw [tw_n1 c1]; rfl) | (rw [tw_n2 c2]; rfl) | (rw [tw_n3 c3]; rfl)) dX4_areTwo_26
    · refine lv_iload_n hx hb dX4_areTwo_16 rfl (lv_at hl 1 rfl) ?_
      refine lv_iload_n hx hb dX4_areTwo_17 rfl (lv_at hl 2 rfl) ?_
      refine lv_icmp_eq (tgt := 25) hx hb dX4_areTwo_18 (by decide) (fun c3 => ?_) (fun c3 => ?_)
      · refine lv_iconst (v := nI 0) hx hb dX4_areTwo_25 (by decide) ?_
        exact r_retZ (v := nI 0) hx hb hr hlocks false rfl (by first | (rw [tw_n1 c1]; rfl) | (rw [tw_n2 c2]; rfl) | (rw [tw_n3 c3]; rfl)) dX4_areTwo_26
      · refine lv_iconst (v := nI 1) hx hb dX4_areTwo_21 (by decide) ?_
        refine lv_goto (tgt := 26) hx hb dX4_areTwo_22 (by decide) ?_
        exact r_retZ (v := nI 1) hx hb hr hlocks true rfl (by rw [tw_y c1 c2 c3]; rfl) dX4_areTwo_26

set_option maxRecDepth 20000 in
theorem iiX4_common_4 : ∀ w ∈ wsX40, w ∈ wsX4_common := by decide +kernel
set_option maxHeartbeats 4000000 in
set_option maxRecDepth 100000 in
/-- the channels that are open to all -/
theorem c_X4_common (l : Launch) (G : va_G) (t : gT) (d : Nat) (z : Nat → Int32) (hz : WF z) : Met l yX4_common wsX4_common ({ frames := 1, cells := 0, slots := 0, locals := 22 } : Room) (pc_ [.ref d] (fun U H => KK G t U ∧ Mn G t d z H)) (vp_Si (fun r => r = nI (comN z (cu z)))) 0 0 (fun _ => False) := by
  refine Met.ofW (cc := cX4_common) (maxL := 3) (ret := (some .int)) (by decide) rfl ?_
  intro p e s m args below meth c s₁ B hml hv
  obtain ⟨rfl, hB⟩ := hv
  have hx := B.exec
  have hb := B.bytes
  have hr := B.returns
  have hts := atoms_spec (ws := wsX4_common) B.pre
  have hown : s.vm.findClass RX4 = some m.cls := findClass_of_methodNamed B.named
  have hlocks := B.notSynchronized
  have hK := hB.1
  obtain ⟨bc, sl, lo, h0, h1⟩ := hB.2
  have hn := hz.n
  have hu5 := hz.u5
  have hs8 := hz.s8
  have hp := prN_in (cn z)
  have hl := lv_entry ([.ref d]) (n := 3) (Nat.le_of_ble_eq_true rfl)
  rw [lg_entry_eq]
  generalize (lg_sl ([.ref d]) ++ List.replicate (3 - (lg_sl ([.ref d])).length) Slot.unset).toArray = ls at hl ⊢
  have hl : lv_has ls 3 [(0, .ref d)] := hl
  refine lv_aload_n hx hb dX4_common_0 rfl (lv_at hl 0 rfl) ?_
  refine r_cV (av := []) (c_X4_all l G t d z hz) ⟨hx, hb, hml, hown, hts⟩ (cwV 0 hts gX4_common_X4_all rfl rfl rfl (by decide +kernel) ⟨Nat.le_of_ble_eq_true rfl, Nat.le_of_ble_eq_true rfl⟩) mv_K hB (at_recv hK h0 rfl) rfl hl (Nat.le_of_ble_eq_true rfl) ⟨Nat.le_of_ble_eq_true rfl, Nat.le_of_ble_eq_true rfl⟩ rfl dX4_common_1 (fun r1 hr1 => ?_)
  subst hr1
  refine lv_istore_n (lv' := [(1, .int (nI (2 ^ cn z - 1))), (0, .ref d)]) hx hb dX4_common_4 rfl hl (by decide) rfl (fun ls hl => ?_)
  refine lv_iconst (v := nI 0) hx hb dX4_common_5 (by decide) ?_
  refine lv_istore_n (lv' := [(2, .int (nI 0)), (1, .int (nI (2 ^ cn z - 1))), (0, .ref d)]) hx hb dX4_common_6 rfl hl (by decide) rfl (fun ls hl => ?_)
  have loop7 : ∀ (fu : Nat) (j : Nat) (hj : j ≤ cu z) (hfu : cu z - j < fu) (ls : Array Slot) (hl : lv_has ls 3 [(0, .ref d), (1, .int (nI (comN z j))), (2, .int (nI j))]), W p l e (headSpec wsX4_common ({ frames := 1, cells := 0, slots := 0, locals := 22 } : Room)).room s m ([.ref d] : List Value).toArray below meth c s.heap [] 0 0 (MQ below (vp_Si (fun r => r = nI (comN z (cu z)))) ([.ref d] : List Value).toArray s 0 0 (fun _ => False)) (F0 m 7 ls []) := by
    intro fu
    induction fu with
    | zero => intro j hj hfu; exact absurd hfu (Nat.not_lt_zero _)
    | succ fu7 ih7 =>
      intro j hj hfu ls hl
      refine lv_iload_n hx hb dX4_common_7 rfl (lv_at hl 2 rfl) ?_
      refine lv_aload_n hx hb dX4_common_8 rfl (lv_at hl 0 rfl) ?_
      refine r_get (C := RX4) (T := TX4) (N := 10) hx hb hts iiX4_common_4 hown hK h0 rfl 0 (by decide) (hts (.fieldLink RX4 7 "HopMeetModel" "now" "[I") (List.mem_of_getElem? (i := 1) rfl)) rfl dX4_common_9 ?_
      refine lv_iconst (v := nI 1) hx hb dX4_common_12 (by decide) ?_
      refine r_iald hx hb hK h1 rfl 1 (by omega) (by decide) (v := nI (cu z)) hz.2.1.1 dX4_common_13 ?_
      refine r_geN hx hb (by omega) (by omega) dX4_common_14 (tgt := 32) (by decide) (fun c1 => ?_) (fun c1 => ?_)
      · refine lv_iload_n hx hb dX4_common_32 rfl (lv_at hl 1 rfl) ?_
        exact r_retS (v := nI (comN z j)) hx hb hr hlocks (by rw [show cu z = j by omega]) dX4_common_33
      · refine lv_iload_n hx hb dX4_common_17 rfl (lv_at hl 1 rfl) ?_
        refine lv_aload_n hx hb dX4_common_18 rfl (lv_at hl 0 rfl) ?_
        refine lv_iload_n hx hb dX4_common_19 rfl (lv_at hl 2 rfl) ?_
        refine lv_iconst (v := nI 4) hx hb dX4_common_20 (by decide) ?_
        refine r_cV (av := [.int (nI j), .int (nI 4)]) (c_X4_of l G t d z hz j 4 (by omega) (by decide)) ⟨hx, hb, hml, hown, hts⟩ (cwV 2 hts gX4_common_X4_of rfl rfl rfl (by decide +kernel) ⟨Nat.le_of_ble_eq_true rfl, Nat.le_of_ble_eq_true rfl⟩) mv_K hB (at_recv hK h0 rfl) rfl hl (Nat.le_of_ble_eq_true rfl) ⟨Nat.le_of_ble_eq_true rfl, Nat.le_of_ble_eq_true rfl⟩ rfl dX4_common_21 (fun r2 hr2 => ?_)
        subst hr2
        refine r_top (y := nI (uO z j)) (hz.us c1).2.2.2.2.1 ?_
        refine r_iandN hx hb dX4_common_24 ?_
        refine lv_istore_n (lv' := [(1, .int (nI ((comN z j) &&& (uO z j)))), (0, .ref d), (2, .int (nI j))]) hx hb dX4_common_25 rfl hl (by decide) rfl (fun ls hl => ?_)
        refine lv_iinc (v := nI (j + 1)) (lv' := [(2, .int (nI (j + 1))), (1, .int (nI ((comN z j) &&& (uO z j)))), (0, .ref d)]) hx hb dX4_common_26 hl (k := 2) rfl (nI_1 _) (by decide) rfl (fun ls hl => ?_)
        refine lv_goto (tgt := 7) hx hb dX4_common_29 (by decide) ?_
        exact ih7 (j + 1) c1 (by omega) ls (lv_sub hl [2, 1, 0] rfl)
  exact loop7 _ 0 (Nat.zero_le _) (Nat.lt_succ_self _) ls (lv_sub hl [2, 1, 0] rfl)

set_option maxHeartbeats 4000000 in
set_option maxRecDepth 100000 in
/-- whether v may stand there -/
theorem c_X4_isBound (l : Launch) (G : va_G) (t : gT) (w v : Int32) : Met l yX4_isBound wsX4_isBound ({ frames := 1, cells := 0, slots := 0, locals := 22 } : Room) (pc_ [.int w, .int v] (fun _ _ => True)) (vp_Si (fun r => r = bI (ibB w v))) 0 0 (fun _ => False) := by
  refine Met.ofW (cc := cX4_isBound) (maxL := 2) (ret := (some .boolean)) (by decide) rfl ?_
  intro p e s m args below meth c s₁ B hml hv
  obtain ⟨rfl, hB⟩ := hv
  have hx := B.exec
  have hb := B.bytes
  have hr := B.returns
  have hts := atoms_spec (ws := wsX4_isBound) B.pre
  have hown : s.vm.findClass RX4 = some m.cls := findClass_of_methodNamed B.named
  have hlocks := B.notSynchronized
  have hl := lv_entry ([.int w, .int v]) (n := 2) (Nat.le_of_ble_eq_true rfl)
  rw [lg_entry_eq]
  generalize (lg_sl ([.int w, .int v]) ++ List.replicate (2 - (lg_sl ([.int w, .int v])).length) Slot.unset).toArray = ls at hl ⊢
  have hl : lv_has ls 2 [(0, .int w), (1, .int v)] := hl
  refine lv_iload_n hx hb dX4_isBound_0 rfl (lv_at hl 1 rfl) ?_
  refine lv_iconst (v := nI 0) hx hb dX4_isBound_1 (by decide) ?_
  refine lv_iload_n hx hb dX4_isBound_2 rfl (lv_at hl 0 rfl) ?_
  refine lv_if_ne (tgt := 10) hx hb dX4_isBound_3 (by decide) (fun c1 => ?_) (fun c1 => ?_)
  · refine lv_iload_n hx hb dX4_isBound_10 rfl (lv_at hl 0 rfl) ?_
    refine lv_iconst (v := nI 3) hx hb dX4_isBound_11 (by decide) ?_
    refine lv_icmp_ne (tgt := 21) hx hb dX4_isBound_12 (by decide) (fun c2 => ?_) (fun c2 => ?_)
    · refine lv_bipush (v := nI 99) hx hb dX4_isBound_21 (by decide) ?_
      refine r_cS (av := [.int v, .int (nI 0), .int (nI 99)]) (c_X4_in l G t v (nI 0) (nI 99)) ⟨hx, hb, hml, hown, hts⟩ (va_cwS 3 hts gX4_isBound_X4_in rfl rfl rfl (by decide +kernel) ⟨Nat.le_of_ble_eq_true rfl, Nat.le_of_ble_eq_true rfl⟩) mv_T trivial rfl hl (Nat.le_of_ble_eq_true rfl) ⟨Nat.le_of_ble_eq_true rfl, Nat.le_of_ble_eq_true rfl⟩ rfl dX4_isBound_23 (fun r1 hr1 => ?_)
      subst hr1
      exact r_retZ (v := bI (inB v (nI 0) (nI 99))) hx hb hr hlocks (inB v (nI 0) (nI 99)) rfl (by unfold ibB; rw [if_neg c1, if_neg c2]) dX4_isBound_26
    · refine lv_sipush (v := nI 200) hx hb dX4_isBound_15 (by decide) ?_
      refine lv_goto (tgt := 23) hx hb dX4_isBound_18 (by decide) ?_
      refine r_cS (av := [.int v, .int (nI 0), .int (nI 200)]) (c_X4_in l G t v (nI 0) (nI 200)) ⟨hx, hb, hml, hown, hts⟩ (va_cwS 3 hts gX4_isBound_X4_in rfl rfl rfl (by decide +kernel) ⟨Nat.le_of_ble_eq_true rfl, Nat.le_of_ble_eq_true rfl⟩) mv_T trivial rfl hl (Nat.le_of_ble_eq_true rfl) ⟨Nat.le_of_ble_eq_true rfl, Nat.le_of_ble_eq_true rfl⟩ rfl dX4_isBound_23 (fun r2 hr2 => ?_)
      subst hr2
      exact r_retZ (v := bI (inB v (nI 0) (nI 200))) hx hb hr hlocks (inB v (nI 0) (nI 200)) rfl (by unfold ibB; rw [if_neg c1, if_pos c2]) dX4_isBound_26
  · refine lv_iconst (v := nI 3) hx hb dX4_isBound_6 (by decide) ?_
    refine lv_goto (tgt := 23) hx hb dX4_isBound_7 (by decide) ?_
    refine r_cS (av := [.int v, .int (nI 0), .int (nI 3)]) (c_X4_in l G t v (nI 0) (nI 3)) ⟨hx, hb, hml, hown, hts⟩ (va_cwS 3 hts gX4_isBound_X4_in rfl rfl rfl (by decide +kernel) ⟨Nat.le_of_ble_eq_true rfl, Nat.le_of_ble_eq_true rfl⟩) mv_T trivial rfl hl (Nat.le_of_ble_eq_true rfl) ⟨Nat.le_of_ble_eq_true rfl, Nat.le_of_ble_eq_true rfl⟩ rfl dX4_isBound_23 (fun r3 hr3 => ?_)
    subst hr3
    exact r_retZ (v := bI (inB v (nI 0) (nI 3))) hx hb hr hlocks (inB v (nI 0) (nI 3)) rfl (by unfold ibB; rw [if_pos c1]) dX4_isBound_26
end
section
/-! groups: how they are kept, and how a slot is run -/
abbrev iv (lo hi : Nat) : Nat → Prop := fun q => lo ≤ q ∧ q < hi
theorem iv_no {lo hi q : Nat} (h : q < lo ∨ hi ≤ q) : ¬ iv lo hi q := fun k => by
  have k : lo ≤ q ∧ q < hi := k
  omega
theorem iv_sub {lo hi lo2 hi2 : Nat} (h : lo2 ≤ lo) (h2 : hi ≤ hi2) : ∀ q, iv lo hi q → iv lo2 hi2 q := fun q k => by
  have k : lo ≤ q ∧ q < hi := k
  exact ⟨by omega, by omega⟩
theorem up_ext {f : Nat → Int32} {g : Nat → Int32} {i : Nat} {x : Int32} (h : ∀ u, u < i → f u = g u) (hx : x = g i) : ∀ u, u < i + 1 → upd f i x u = g u := fun u hu => by
  by_cases e : u = i
  · rw [e, pk_us, hx]
  · rw [pk_un e]; exact h u (by omega)
/-- the first below n -/
def fi (p : Nat → Bool) : Nat → Nat
  | 0 => 0
  | n + 1 => if fi p n < n then fi p n else if p n = true then n else n + 1
theorem fi_some {p : Nat → Bool} {n : Nat} (h : fi p n < n) : fi p (n + 1) = fi p n := if_pos h
theorem fi_new {p : Nat → Bool} {n : Nat} (h : ¬ fi p n < n) (h2 : p n = true) : fi p (n + 1) = n := by rw [fi, if_neg h, if_pos h2]
theorem fi_non {p : Nat → Bool} {n : Nat} (h : ¬ fi p n < n) (h2 : p n = false) : fi p (n + 1) = n + 1 := by rw [fi, if_neg h, if_neg (by rw [h2]; decide)]
theorem fi_le (p : Nat → Bool) : ∀ n, fi p n ≤ n
  | 0 => Nat.le_refl _
  | n + 1 => by
    have := fi_le p n
    unfold fi
    split
    · omega
    · split <;> omega
theorem fi_p {p : Nat → Bool} : ∀ {n}, fi p n < n → p (fi p n) = true
  | 0, h => absurd h (Nat.not_lt_zero _)
  | n + 1, h => by
    by_cases h1 : fi p n < n
    · rw [fi_some h1]; exact fi_p h1
    · by_cases h2 : p n = true
      · rw [fi_new h1 h2]; exact h2
      · rw [fi_non h1 (by simpa using h2)] at h
        omega
theorem fi_no {p : Nat → Bool} : ∀ {n j}, j < fi p n → p j = false
  | 0, j, h => absurd h (Nat.not_lt_zero _)
  | n + 1, j, h => by
    by_cases h1 : fi p n < n
    · rw [fi_some h1] at h; exact fi_no h
    · have h3 : fi p n = n := by have := fi_le p n; omega
      by_cases h2 : p n = true
      · rw [fi_new h1 h2] at h; exact fi_no (n := n) (by omega)
      · rw [fi_non h1 (by simpa using h2)] at h
        by_cases e : j = n
        · rw [e]; simpa using h2
        · exact fi_no (n := n) (by omega)
theorem fi_eq {p : Nat → Bool} {n i : Nat} (h : ∀ j, j < i → p j = false) (h2 : p i = true) (h3 : i < n) : fi p n = i := by
  rcases Nat.lt_or_ge (fi p n) i with q | q
  · have := fi_p (p := p) (n := n) (by omega)
    rw [h _ q] at this
    cases this
  · rcases Nat.lt_or_ge i (fi p n) with q2 | q2
    · rw [fi_no q2] at h2
      cases h2
    · omega
theorem fi_none {p : Nat → Bool} {n : Nat} (h : ∀ j, j < n → p j = false) : fi p n = n := by
  have h1 := fi_le p n
  rcases Nat.lt_or_ge (fi p n) n with q | q
  · have := fi_p q
    rw [h _ q] at this
    cases this
  · omega
theorem fi_cong {p q : Nat → Bool} : ∀ {n}, (∀ j, j < n → p j = q j) → fi p n = fi q n
  | 0, _ => rfl
  | n + 1, h => by rw [fi, fi, fi_cong (fun j hj => h j (by omega)), h n (by omega)]
def cntF (p : Nat → Bool) : Nat → Nat
  | 0 => 0
  | n + 1 => cntF p n + (if p n = true then 1 else 0)
theorem cnt_y {p : Nat → Bool} {n w : Nat} (h : w = cntF p n) (h2 : p n = true) : w + 1 = cntF p (n + 1) := by rw [cntF, if_pos h2, h]
theorem cnt_n {p : Nat → Bool} {n w : Nat} (h : w = cntF p n) (h2 : p n = false) : w = cntF p (n + 1) := by rw [cntF, if_neg (by rw [h2]; decide), h]; rfl
theorem cnt_le (p : Nat → Bool) : ∀ n, cntF p n ≤ n
  | 0 => Nat.le_refl _
  | n + 1 => by
    have := cnt_le p n
    unfold cntF
    split <;> omega
def grN (gr : Nat → Nat) (k : Nat) : Nat := cntF (fun u => decide (gr u = u)) k
def szN (gr : Nat → Nat) (k u : Nat) : Nat := cntF (fun v => decide (gr v = gr u)) k
/-- the new leader of a leader -/
def nlN (z : Nat → Int32) (gr : Nat → Nat) (y u : Nat) : Nat := if plC z u y = -1 then u else fi (fun v => decide (gr v = v ∧ plC z v y = plC z u y)) u
def grS (z : Nat → Int32) (gr : Nat → Nat) (y : Nat) : Nat → Nat := fun w => nlN z gr y (gr w)
theorem nl_le (z : Nat → Int32) (gr : Nat → Nat) (y u : Nat) : nlN z gr y u ≤ u := by
  unfold nlN
  split
  · exact Nat.le_refl _
  · exact fi_le _ _
/-- behind the first i users: who goes with whom; who leads on a channel -/
def gI (z : Nat → Int32) (gr : Nat → Nat) (y i : Nat) : Nat → Nat := fun w => if gr w < i then nlN z gr y (gr w) else gr w
def pI (z : Nat → Int32) (gr : Nat → Nat) (y c : Nat) : Nat → Bool := fun v => decide (gr v = v ∧ plC z v y = nI c)
def fI (z : Nat → Int32) (gr : Nat → Nat) (y i : Nat) : Nat → Int32 := fun c => if fi (pI z gr y c) i < i then nI (fi (pI z gr y c) i) else -1
theorem fI_0 (z : Nat → Int32) (gr : Nat → Nat) (y c : Nat) : fI z gr y 0 c = -1 := if_neg (Nat.not_lt_zero _)
theorem gI_0 (z : Nat → Int32) (gr : Nat → Nat) (y w : Nat) : gI z gr y 0 w = gr w := if_neg (Nat.not_lt_zero _)
theorem fI_keep {z : Nat → Int32} {gr : Nat → Nat} {y i c : Nat} (h : pI z gr y c i = false) : fI z gr y (i + 1) c = fI z gr y i c := by
  unfold fI
  by_cases h1 : fi (pI z gr y c) i < i
  · rw [fi_some h1, if_pos h1, if_pos (by omega)]
  · rw [fi_non h1 h, if_neg h1, if_neg (by omega)]
theorem gI_keep {z : Nat → Int32} {gr : Nat → Nat} {y i w : Nat} (h : gr w = i → nlN z gr y i = i) : gI z gr y (i + 1) w = gI z gr y i w := by
  unfold gI
  by_cases h1 : gr w < i
  · rw [if_pos h1, if_pos (by omega)]
  · rw [if_neg h1]
    split
    next h2 =>
      have e : gr w = i := by omega
      rw [e]; exact h e
    next h2 => rfl
/-- a user that leads nobody new -/
theorem slot_skip {z : Nat → Int32} {gr : Nat → Nat} {y i : Nat} (hg : ∀ w, gr (gr w) = gr w) (h : ¬ gr i = i) : (∀ w, gI z gr y (i + 1) w = gI z gr y i w) ∧ ∀ c, fI z gr y (i + 1) c = fI z gr y i c :=
  ⟨fun w => gI_keep (fun e => absurd (by rw [← e]; exact hg w) h), fun c => fI_keep (decide_eq_false (fun q => h q.1))⟩
theorem slot_none {z : Nat → Int32} {gr : Nat → Nat} {y i : Nat} (h : plC z i y = -1) : (∀ w, gI z gr y (i + 1) w = gI z gr y i w) ∧ ∀ c, c < 10 → fI z gr y (i + 1) c = fI z gr y i c :=
  ⟨fun w => gI_keep (fun _ => if_pos h), fun c hc => fI_keep (decide_eq_false (fun q => nI_m1 (by omega) (q.2.symm.trans h)))⟩
theorem nl_pI {z : Nat → Int32} {gr : Nat → Nat} {y i c0 : Nat} (hp : plC z i y = nI c0) (hc0 : c0 < 10) : nlN z gr y i = fi (pI z gr y c0) i := by
  unfold nlN pI
  rw [if_neg (by rw [hp]; exact nI_m1 (by omega)), hp]
theorem slot_first {z : Nat → Int32} {gr : Nat → Nat} {y i c0 : Nat} (hg : gr i = i) (hp : plC z i y = nI c0) (hc0 : c0 < 10) (h : fI z gr y i c0 = -1) (hi : i < 10) : (∀ w, gI z gr y (i + 1) w = gI z gr y i w) ∧ ∀ c, c < 10 → fI z gr y (i + 1) c = upd (fI z gr y i) c0 (nI i) c := by
  have h1 : ¬ fi (pI z gr y c0) i < i := by
    intro q
    unfold fI at h
    rw [if_pos q] at h
    exact nI_m1 (by omega) h
  have h2 : fi (pI z gr y c0) i = i := by have := fi_le (pI z gr y c0) i; omega
  refine ⟨fun w => gI_keep (fun _ => by rw [nl_pI hp hc0, h2]), fun c hc => ?_⟩
  by_cases e : c = c0
  · subst e
    rw [pk_us]
    unfold fI
    rw [fi_new h1 (decide_eq_true ⟨hg, hp⟩), if_pos (by omega)]
  · rw [pk_un e]
    exact fI_keep (decide_eq_false (fun q => e ((nI_eq (by omega) (by omega)).mp (q.2.symm.trans hp))))
theorem slot_join {z : Nat → Int32} {gr : Nat → Nat} {y i c0 L : Nat} (hp : plC z i y = nI c0) (hc0 : c0 < 10) (h : fI z gr y i c0 = nI L) (hL : L < 10) (hi : i < 10) : (∀ w, gI z gr y (i + 1) w = if gI z gr y i w = i then L else gI z gr y i w) ∧ ∀ c, c < 10 → fI z gr y (i + 1) c = fI z gr y i c := by
  have h1 : fi (pI z gr y c0) i < i := by
    apply Decidable.byContradiction
    intro q
    unfold fI at h
    rw [if_neg q] at h
    exact nI_m1 (by omega) h.symm
  have h2 : fi (pI z gr y c0) i = L := by
    unfold fI at h
    rw [if_pos h1] at h
    exact (nI_eq (by omega) (by omega)).mp h
  have h3 : nlN z gr y i = L := by rw [nl_pI hp hc0, h2]
  refine ⟨fun w => ?_, fun c hc => ?_⟩
  · unfold gI
    by_cases q : gr w < i
    · rw [if_pos q, if_pos (by omega)]
      have := nl_le z gr y (gr w)
      rw [if_neg (by omega)]
    · rw [if_neg q]
      by_cases e : gr w = i
      · rw [if_pos (by omega), if_pos e, e, h3]
      · rw [if_neg (by omega), if_neg e]
  · by_cases e : c = c0
    · subst e
      unfold fI
      rw [fi_some h1, if_pos h1, if_pos (by omega)]
    · exact fI_keep (decide_eq_false (fun q => e ((nI_eq (by omega) (by omega)).mp (q.2.symm.trans hp))))
/-- the picture of Groups -/
def Gq (G : va_G) (t : gT) (a : Nat) (gr : Nat → Nat) (sl k : Nat) (fo : Nat → Int32) (H : Heap) : Prop := ∃ (fl f2 : Nat → Int32), at_ G a (.inr (0, [.int (nI sl), .int (nI k), .ref (a + 1), .ref (a + 2)])) H ∧ at_ G (a + 1) (aI t 5 fl) H ∧ at_ G (a + 2) (aI t 10 f2) H ∧ (∀ u, u < k → fl u = nI (gr u)) ∧ ∀ c, c < 10 → f2 c = fo c
def Gp (G : va_G) (t : gT) (a : Nat) (gr : Nat → Nat) (sl k : Nat) (H : Heap) : Prop := ∃ fo, Gq G t a gr sl k fo H
theorem Gq_congr {G : va_G} {t : gT} {a : Nat} {gr gr2 : Nat → Nat} {sl k : Nat} {fo fo2 : Nat → Int32} {H : Heap} (h : Gq G t a gr sl k fo H) (h1 : ∀ u, u < k → gr u = gr2 u) (h2 : ∀ c, c < 10 → fo c = fo2 c) : Gq G t a gr2 sl k fo2 H := by
  obtain ⟨fl, f2, q0, q1, q2, q3, q4⟩ := h
  exact ⟨fl, f2, q0, q1, q2, fun u hu => by rw [q3 u hu, h1 u hu], fun c hc => by rw [q4 c hc, h2 c hc]⟩
theorem Gp_congr {G : va_G} {t : gT} {a : Nat} {gr gr2 : Nat → Nat} {sl k : Nat} {H : Heap} (h : Gp G t a gr sl k H) (h1 : ∀ u, u < k → gr u = gr2 u) : Gp G t a gr2 sl k H := by
  obtain ⟨fo, h⟩ := h
  exact ⟨fo, Gq_congr h h1 (fun _ _ => rfl)⟩
theorem Gp_kept {G : va_G} {t : gT} {a : Nat} {gr : Nat → Nat} {sl k : Nat} {H H1 : Heap} (h : Gp G t a gr sl k H) (hk : ∀ q, a ≤ q → q < a + 3 → H1[q]? = H[q]?) : Gp G t a gr sl k H1 := by
  obtain ⟨fo, fl, f2, q0, q1, q2, q3, q4⟩ := h
  exact ⟨fo, fl, f2, at_kept q0 (hk _ (by omega) (by omega)), at_kept q1 (hk _ (by omega) (by omega)), at_kept q2 (hk _ (by omega) (by omega)), q3, q4⟩
theorem Gp_lt {G : va_G} {t : gT} {a : Nat} {gr : Nat → Nat} {sl k : Nat} {H : Heap} (h : Gp G t a gr sl k H) : a + 3 ≤ H.size := by
  obtain ⟨fo, fl, f2, q0, q1, q2, q3, q4⟩ := h
  have e : a + 2 < H.size := va_at.lt q2
  omega
theorem Gp_keptA {G : va_G} {t : gT} {a : Nat} {gr : Nat → Nat} {sl k : Nat} {H H1 : Heap} {A : Nat → Prop} (h : Gp G t a gr sl k H) (hk : ∀ q : Nat, q < H.size → ¬ A q → H1[q]? = H[q]?) (ha : ∀ q, a ≤ q → q < a + 3 → ¬ A q) : Gp G t a gr sl k H1 := by
  have hz := Gp_lt h
  exact Gp_kept h (fun q h1 h2 => hk q (by omega) (ha q h1 h2))
theorem jo_ext {f g : Nat → Int32} {i : Nat} (h : ∀ u, u < i → f u = g u) (hx : f i = g i) : ∀ u, u < i + 1 → f u = g u := fun u hu => by
  rcases Nat.lt_succ_iff_lt_or_eq.mp hu with q | q
  · exact h u q
  · rw [q]; exact hx
theorem up_cong {f g : Nat → Int32} {n i : Nat} {x : Int32} (h : ∀ c, c < n → f c = g c) : ∀ c, c < n → upd f i x c = upd g i x c := fun c hc => by
  by_cases e : c = i
  · rw [e, pk_us, pk_us]
  · rw [pk_un e, pk_un e]; exact h c hc
theorem gI_le (z : Nat → Int32) (gr : Nat → Nat) (y i w : Nat) : gI z gr y i w ≤ gr w := by
  unfold gI
  split
  · exact nl_le z gr y (gr w)
  · exact Nat.le_refl _
theorem gI_lead {z : Nat → Int32} {gr : Nat → Nat} {y : Nat} (hg : ∀ u, gr u ≤ u) (i : Nat) : gI z gr y i i = i ↔ gr i = i := by
  unfold gI
  have h1 := hg i
  have h2 := nl_le z gr y (gr i)
  split <;> constructor <;> intro h <;> omega
theorem gI_end {z : Nat → Int32} {gr : Nat → Nat} {y k : Nat} (hg : ∀ u, gr u ≤ u) {u : Nat} (hu : u < k) : gI z gr y k u = grS z gr y u := by
  have h1 := hg u
  unfold gI grS
  rw [if_pos (by omega)]
theorem WF.plc {z : Nat → Int32} (h : WF z) {u : Nat} (hu : u < cu z) (y : Nat) : plC z u y = -1 ∨ ∃ c, c < cn z ∧ plC z u y = nI c := by
  unfold plC
  split
  · exact Or.inl rfl
  · split
    · exact Or.inl rfl
    · split
      · exact Or.inl rfl
      · exact h.pl hu _
theorem slot_case {z : Nat → Int32} {gr : Nat → Nat} {y i k : Nat} (hz : WF z) (hi : i < cu z) (h : gr i = i) : (plC z i y = -1 ∧ (∀ w, w < k → gI z gr y (i + 1) w = gI z gr y i w) ∧ ∀ c, c < 10 → fI z gr y (i + 1) c = fI z gr y i c) ∨
    (∃ c0, c0 < 10 ∧ plC z i y = nI c0 ∧ fI z gr y i c0 = -1 ∧ (∀ w, w < k → gI z gr y (i + 1) w = gI z gr y i w) ∧ ∀ c, c < 10 → fI z gr y (i + 1) c = upd (fI z gr y i) c0 (nI i) c) ∨
    ∃ c0 L, c0 < 10 ∧ L < 5 ∧ plC z i y = nI c0 ∧ fI z gr y i c0 = nI L ∧ (∀ w, w < k → gI z gr y (i + 1) w = if gI z gr y i w = i then L else gI z gr y i w) ∧ ∀ c, c < 10 → fI z gr y (i + 1) c = fI z gr y i c := by
  have h5 := hz.u5
  have hn := hz.n
  rcases hz.plc hi y with hp | ⟨c0, hc0, hp⟩
  · exact Or.inl ⟨hp, fun w _ => (slot_none hp).1 w, (slot_none hp).2⟩
  · by_cases q : fi (pI z gr y c0) i < i
    · have hf : fI z gr y i c0 = nI (fi (pI z gr y c0) i) := if_pos q
      have hj := slot_join (gr := gr) hp (by omega) hf (by omega) (by omega)
      exact Or.inr (Or.inr ⟨c0, _, by omega, by omega, hp, hf, fun w _ => hj.1 w, hj.2⟩)
    · have hf : fI z gr y i c0 = -1 := if_neg q
      have hj := slot_first h hp (by omega) hf (by omega)
      exact Or.inr (Or.inl ⟨c0, by omega, hp, hf, fun w _ => hj.1 w, hj.2⟩)
end
section
/-! Groups (printed by wip/whole/m3.py) -/
set_option maxRecDepth 20000 in
theorem iiX0_begin_0 : ∀ w ∈ wsX00, w ∈ wsX0_begin := by decide +kernel
set_option maxHeartbeats 4000000 in
set_option maxRecDepth 100000 in
/-- each alone -/
theorem c_X0_begin (l : Launch) (G : va_G) (t : gT) (a : Nat) (gr : Nat → Nat) (sl k : Nat) (k2 : Nat) (hk : k2 ≤ 5) : Met l yX0_begin wsX0_begin ({ frames := 0, cells := 0, slots := 0, locals := 0 } : Room) (pc_ [.ref a, .int (nI k2)] (fun U H => KK G t U ∧ Gp G t a gr sl k H)) (qv_ (fun H => Gp G t a (fun u => u) 0 k2 H) (iv a (a + 3))) 0 0 (iv a (a + 3)) := by
  refine Met.ofW (cc := cX0_begin) (maxL := 3) (ret := none) (by decide) rfl ?_
  intro p e s m args below meth c s₁ B hml hv
  obtain ⟨rfl, hB⟩ := hv
  have hx := B.exec
  have hb := B.bytes
  have hr := B.returns
  have hts := atoms_spec (ws := wsX0_begin) B.pre
  have hown : s.vm.findClass RX0 = some m.cls := findClass_of_methodNamed B.named
  have hlocks := B.notSynchronized
  have hK := hB.1
  obtain ⟨fo, fl, f2, h0, h1, h2, h3, h4⟩ := hB.2
  have hS : va_S (iv a (a + 3)) s.heap s.heap [] := va_S.rf
  have hl := lv_entry ([.ref a, .int (nI k2)]) (n := 3) (Nat.le_of_ble_eq_true rfl)
  rw [lg_entry_eq]
  generalize (lg_sl ([.ref a, .int (nI k2)]) ++ List.replicate (3 - (lg_sl ([.ref a, .int (nI k2)])).length) Slot.unset).toArray = ls at hl ⊢
  have hl : lv_has ls 3 [(0, .ref a), (1, .int (nI k2))] := hl
  refine lv_aload_n hx hb dX0_begin_0 rfl (lv_at hl 0 rfl) ?_
  refine lv_iconst (v := nI 0) hx hb dX0_begin_1 (by decide) ?_
  refine r_put (ty := .int) (ci := 0) (C := RX0) (T := TX0) (N := 4) (fs' := [.int (nI 0), .int (nI k), .ref (a + 1), .ref (a + 2)]) hx hb hts iiX0_begin_0 tyX0 tyX0_ok nmX0 hown hK h0 ⟨by omega, by omega⟩ hS rfl 0 (by decide) (hts (.fieldLink RX0 18 "HopMeet$Groups" "slotsRun" "I") (List.mem_of_getElem? (i := 1) rfl)) rfl (by decide +kernel) rfl rfl (Nat.le_of_ble_eq_true rfl) rfl dX0_begin_2 (fun H locs h0 hz9 hq hS => ?_)
  have h1 := at_kept h1 (hq _ (by omega))
  have h2 := at_kept h2 (hq _ (by omega))
  refine lv_aload_n hx hb dX0_begin_5 rfl (lv_at hl 0 rfl) ?_
  refine lv_iload_n hx hb dX0_begin_6 rfl (lv_at hl 1 rfl) ?_
  refine r_put (ty := .int) (ci := 0) (C := RX0) (T := TX0) (N := 4) (fs' := [.int (nI 0), .int (nI k2), .ref (a + 1), .ref (a + 2)]) hx hb hts iiX0_begin_0 tyX0 tyX0_ok nmX0 hown hK h0 ⟨by omega, by omega⟩ hS rfl 1 (by decide) (hts (.fieldLink RX0 22 "HopMeet$Groups" "userCount" "I") (List.mem_of_getElem? (i := 2) rfl)) rfl (by decide +kernel) rfl rfl (Nat.le_of_ble_eq_true rfl) rfl dX0_begin_7 (fun H locs h0 hz9 hq hS => ?_)
  have h1 := at_kept h1 (hq _ (by omega))
  have h2 := at_kept h2 (hq _ (by omega))
  refine lv_iconst (v := nI 0) hx hb dX0_begin_10 (by decide) ?_
  refine lv_istore_n (lv' := [(2, .int (nI 0)), (0, .ref a), (1, .int (nI k2))]) hx hb dX0_begin_11 rfl hl (by decide) rfl (fun ls hl => ?_)
  have loop12 : ∀ (fu : Nat) (i : Nat) (f : Nat → Int32) (hi : i ≤ k2) (hf : ∀ u, u < i → f u = nI u) (hfu : k2 - i < fu) (H : Heap) (locs : List Loc) (h0 : at_ G a (.inr (0, [.int (nI 0), .int (nI k2), .ref (a + 1), .ref (a + 2)])) H) (h1 : at_ G (a + 1) (aI t 5 f) H) (h2 : at_ G (a + 2) (aI t 10 f2) H)  (hS : va_S (iv a (a + 3)) s.heap H locs) (ls : Array Slot) (hl : lv_has ls 3 [(0, .ref a), (1, .int (nI k2)), (2, .int (nI i))]), W p l e (headSpec wsX0_begin ({ frames := 0, cells := 0, slots := 0, locals := 0 } : Room)).room s m ([.ref a, .int (nI k2)] : List Value).toArray below meth c H locs 0 0 (MQ below (qv_ (fun H => Gp G t a (fun u => u) 0 k2 H) (iv a (a + 3))) ([.ref a, .int (nI k2)] : List Value).toArray s 0 0 (iv a (a + 3))) (F0 m 12 ls []) := by
    intro fu
    induction fu with
    | zero => intro i f hi hf hfu; exact absurd hfu (Nat.not_lt_zero _)
    | succ fu12 ih12 =>
      intro i f hi hf hfu H locs h0 h1 h2 hS ls hl
      refine lv_iload_n hx hb dX0_begin_12 rfl (lv_at hl 2 rfl) ?_
      refine lv_iload_n hx hb dX0_begin_13 rfl (lv_at hl 1 rfl) ?_
      refine r_geN hx hb (by omega) (by omega) dX0_begin_14 (tgt := 30) (by decide) (fun c1 => ?_) (fun c1 => ?_)
      · exact r_retV hx hb hr hlocks hS ⟨f2, f, f2, h0, h1, h2, fun u hu => hf u (by omega), fun _ _ => rfl⟩ dX0_begin_30
      · refine lv_aload_n hx hb dX0_begin_17 rfl (lv_at hl 0 rfl) ?_
        refine r_get (C := RX0) (T := TX0) (N := 4) hx hb hts iiX0_begin_0 hown hK h0 rfl 2 (by decide) (hts (.fieldLink RX0 9 "HopMeet$Groups" "least" "[I") (List.mem_of_getElem? (i := 3) rfl)) rfl dX0_begin_18 ?_
        refine lv_iload_n hx hb dX0_begin_21 rfl (lv_at hl 2 rfl) ?_
        refine lv_iload_n hx hb dX0_begin_22 rfl (lv_at hl 2 rfl) ?_
        refine r_iast hx hb hK h1 ⟨by omega, by omega⟩ hS rfl i (by omega) (by decide) dX0_begin_23 (fun H locs h1 hz9 hq hS => ?_)
        have h0 := at_kept h0 (hq _ (by omega))
        have h2 := at_kept h2 (hq _ (by omega))
        refine lv_iinc (v := nI (i + 1)) (lv' := [(2, .int (nI (i + 1))), (0, .ref a), (1, .int (nI k2))]) hx hb dX0_begin_24 hl (k := 2) rfl (nI_1 _) (by decide) rfl (fun ls hl => ?_)
        refine lv_goto (tgt := 12) hx hb dX0_begin_27 (by decide) ?_
        exact ih12 (i + 1) (upd f i (nI i)) (by omega) (up_ext hf rfl) (by omega) _ _ h0 h1 h2 hS ls (lv_sub hl [1, 2, 0] rfl)
  exact loop12 _ 0 fl (Nat.zero_le _) (fun u h => absurd h (Nat.not_lt_zero _)) (Nat.lt_succ_self _) _ _ h0 h1 h2 hS ls (lv_sub hl [1, 2, 0] rfl)

set_option maxRecDepth 20000 in
theorem iiX0_howMany_0 : ∀ w ∈ wsX00, w ∈ wsX0_howMany := by decide +kernel
set_option maxHeartbeats 4000000 in
set_option maxRecDepth 100000 in
/-- how many groups -/
theorem c_X0_howMany (l : Launch) (G : va_G) (t : gT) (a : Nat) (gr : Nat → Nat) (sl k : Nat) (hg : ∀ u, u < k → gr u ≤ u) (hk : k ≤ 5) : Met l yX0_howMany wsX0_howMany ({ frames := 0, cells := 0, slots := 0, locals := 0 } : Room) (pc_ [.ref a] (fun U H => KK G t U ∧ Gp G t a gr sl k H)) (vp_Si (fun r => r = nI (grN gr k))) 0 0 (fun _ => False) := by
  refine Met.ofW (cc := cX0_howMany) (maxL := 3) (ret := (some .int)) (by decide) rfl ?_
  intro p e s m args below meth c s₁ B hml hv
  obtain ⟨rfl, hB⟩ := hv
  have hx := B.exec
  have hb := B.bytes
  have hr := B.returns
  have hts := atoms_spec (ws := wsX0_howMany) B.pre
  have hown : s.vm.findClass RX0 = some m.cls := findClass_of_methodNamed B.named
  have hlocks := B.notSynchronized
  have hK := hB.1
  obtain ⟨fo, fl, f2, h0, h1, h2, h3, h4⟩ := hB.2
  have hl := lv_entry ([.ref a]) (n := 3) (Nat.le_of_ble_eq_true rfl)
  rw [lg_entry_eq]
  generalize (lg_sl ([.ref a]) ++ List.replicate (3 - (lg_sl ([.ref a])).length) Slot.unset).toArray = ls at hl ⊢
  have hl : lv_has ls 3 [(0, .ref a)] := hl
  refine lv_iconst (v := nI 0) hx hb dX0_howMany_0 (by decide) ?_
  refine lv_istore_n (lv' := [(1, .int (nI 0)), (0, .ref a)]) hx hb dX0_howMany_1 rfl hl (by decide) rfl (fun ls hl => ?_)
  refine lv_iconst (v := nI 0) hx hb dX0_howMany_2 (by decide) ?_
  refine lv_istore_n (lv' := [(2, .int (nI 0)), (1, .int (nI 0)), (0, .ref a)]) hx hb dX0_howMany_3 rfl hl (by decide) rfl (fun ls hl => ?_)
  have loop4 : ∀ (fu : Nat) (i : Nat) (w : Nat) (hi : i ≤ k) (hw : w = cntF (fun u => decide (gr u = u)) i) (hfu : k - i < fu) (ls : Array Slot) (hl : lv_has ls 3 [(0, .ref a), (1, .int (nI w)), (2, .int (nI i))]), W p l e (headSpec wsX0_howMany ({ frames := 0, cells := 0, slots := 0, locals := 0 } : Room)).room s m ([.ref a] : List Value).toArray below meth c s.heap [] 0 0 (MQ below (vp_Si (fun r => r = nI (grN gr k))) ([.ref a] : List Value).toArray s 0 0 (fun _ => False)) (F0 m 4 ls []) := by
    intro fu
    induction fu with
    | zero => intro i w hi hw hfu; exact absurd hfu (Nat.not_lt_zero _)
    | succ fu4 ih4 =>
      intro i w hi hw hfu ls hl
      refine lv_iload_n hx hb dX0_howMany_4 rfl (lv_at hl 2 rfl) ?_
      refine lv_aload_n hx hb dX0_howMany_5 rfl (lv_at hl 0 rfl) ?_
      refine r_get (C := RX0) (T := TX0) (N := 4) hx hb hts iiX0_howMany_0 hown hK h0 rfl 1 (by decide) (hts (.fieldLink RX0 22 "HopMeet$Groups" "userCount" "I") (List.mem_of_getElem? (i := 1) rfl)) rfl dX0_howMany_6 ?_
      refine r_geN hx hb (by omega) (by omega) dX0_howMany_9 (tgt := 31) (by decide) (fun c1 => ?_) (fun c1 => ?_)
      · refine lv_iload_n hx hb dX0_howMany_31 rfl (lv_at hl 1 rfl) ?_
        exact r_retS (v := nI w) hx hb hr hlocks (by rw [hw, show k = i by omega]; rfl) dX0_howMany_32
      · refine lv_aload_n hx hb dX0_howMany_12 rfl (lv_at hl 0 rfl) ?_
        refine r_get (C := RX0) (T := TX0) (N := 4) hx hb hts iiX0_howMany_0 hown hK h0 rfl 2 (by decide) (hts (.fieldLink RX0 9 "HopMeet$Groups" "least" "[I") (List.mem_of_getElem? (i := 2) rfl)) rfl dX0_howMany_13 ?_
        refine lv_iload_n hx hb dX0_howMany_16 rfl (lv_at hl 2 rfl) ?_
        refine r_iald hx hb hK h1 rfl i (by omega) (by decide) (v := nI (gr i)) (h3 i c1) dX0_howMany_17 ?_
        refine lv_iload_n hx hb dX0_howMany_18 rfl (lv_at hl 2 rfl) ?_
        refine r_neN hx hb (by have := hg i c1; omega) (by omega) dX0_howMany_19 (tgt := 25) (by decide) (fun c2 => ?_) (fun c2 => ?_)
        · refine lv_iinc (v := nI (i + 1)) (lv' := [(2, .int (nI (i + 1))), (0, .ref a), (1, .int (nI w))]) hx hb dX0_howMany_25 hl (k := 2) rfl (nI_1 _) (by decide) rfl (fun ls hl => ?_)
          refine lv_goto (tgt := 4) hx hb dX0_howMany_28 (by decide) ?_
          exact ih4 (i + 1) w (by omega) (cnt_n hw (decide_eq_false c2)) (by omega) ls (lv_sub hl [1, 2, 0] rfl)
        · refine lv_iinc (v := nI (w + 1)) (lv' := [(1, .int (nI (w + 1))), (0, .ref a), (2, .int (nI i))]) hx hb dX0_howMany_22 hl (k := 1) rfl (nI_1 _) (by decide) rfl (fun ls hl => ?_)
          refine lv_iinc (v := nI (i + 1)) (lv' := [(2, .int (nI (i + 1))), (1, .int (nI (w + 1))), (0, .ref a)]) hx hb dX0_howMany_25 hl (k := 2) rfl (nI_1 _) (by decide) rfl (fun ls hl => ?_)
          refine lv_goto (tgt := 4) hx hb dX0_howMany_28 (by decide) ?_
          exact ih4 (i + 1) (w + 1) (by omega) (cnt_y hw (decide_eq_true c2)) (by omega) ls (lv_sub hl [2, 1, 0] rfl)
  exact loop4 _ 0 0 (Nat.zero_le _) rfl (Nat.lt_succ_self _) ls (lv_sub hl [2, 1, 0] rfl)

set_option maxRecDepth 20000 in
theorem iiX0_sizeOfGroupOf_0 : ∀ w ∈ wsX00, w ∈ wsX0_sizeOfGroupOf := by decide +kernel
set_option maxHeartbeats 4000000 in
set_option maxRecDepth 100000 in
/-- how many go with u -/
theorem c_X0_sizeOfGroupOf (l : Launch) (G : va_G) (t : gT) (a : Nat) (gr : Nat → Nat) (sl k : Nat) (hg : ∀ u, u < k → gr u ≤ u) (hk : k ≤ 5) (u : Nat) (hu : u < k) : Met l yX0_sizeOfGroupOf wsX0_sizeOfGroupOf ({ frames := 0, cells := 0, slots := 0, locals := 0 } : Room) (pc_ [.ref a, .int (nI u)] (fun U H => KK G t U ∧ Gp G t a gr sl k H)) (vp_Si (fun r => r = nI (szN gr k u))) 0 0 (fun _ => False) := by
  refine Met.ofW (cc := cX0_sizeOfGroupOf) (maxL := 4) (ret := (some .int)) (by decide) rfl ?_
  intro p e s m args below meth c s₁ B hml hv
  obtain ⟨rfl, hB⟩ := hv
  have hx := B.exec
  have hb := B.bytes
  have hr := B.returns
  have hts := atoms_spec (ws := wsX0_sizeOfGroupOf) B.pre
  have hown : s.vm.findClass RX0 = some m.cls := findClass_of_methodNamed B.named
  have hlocks := B.notSynchronized
  have hK := hB.1
  obtain ⟨fo, fl, f2, h0, h1, h2, h3, h4⟩ := hB.2
  have hl := lv_entry ([.ref a, .int (nI u)]) (n := 4) (Nat.le_of_ble_eq_true rfl)
  rw [lg_entry_eq]
  generalize (lg_sl ([.ref a, .int (nI u)]) ++ List.replicate (4 - (lg_sl ([.ref a, .int (nI u)])).length) Slot.unset).toArray = ls at hl ⊢
  have hl : lv_has ls 4 [(0, .ref a), (1, .int (nI u))] := hl
  refine lv_iconst (v := nI 0) hx hb dX0_sizeOfGroupOf_0 (by decide) ?_
  refine lv_istore_n (lv' := [(2, .int (nI 0)), (0, .ref a), (1, .int (nI u))]) hx hb dX0_sizeOfGroupOf_1 rfl hl (by decide) rfl (fun ls hl => ?_)
  refine lv_iconst (v := nI 0) hx hb dX0_sizeOfGroupOf_2 (by decide) ?_
  refine lv_istore_n (lv' := [(3, .int (nI 0)), (2, .int (nI 0)), (0, .ref a), (1, .int (nI u))]) hx hb dX0_sizeOfGroupOf_3 rfl hl (by decide) rfl (fun ls hl => ?_)
  have loop4 : ∀ (fu : Nat) (i : Nat) (w : Nat) (hi : i ≤ k) (hw : w = cntF (fun v => decide (gr v = gr u)) i) (hfu : k - i < fu) (ls : Array Slot) (hl : lv_has ls 4 [(0, .ref a), (1, .int (nI u)), (2, .int (nI w)), (3, .int (nI i))]), W p l e (headSpec wsX0_sizeOfGroupOf ({ frames := 0, cells := 0, slots := 0, locals := 0 } : Room)).room s m ([.ref a, .int (nI u)] : List Value).toArray below meth c s.heap [] 0 0 (MQ below (vp_Si (fun r => r = nI (szN gr k u))) ([.ref a, .int (nI u)] : List Value).toArray s 0 0 (fun _ => False)) (F0 m 4 ls []) := by
    intro fu
    induction fu with
    | zero => intro i w hi hw hfu; exact absurd hfu (Nat.not_lt_zero _)
    | succ fu4 ih4 =>
      intro i w hi hw hfu ls hl
      refine lv_iload_n hx hb dX0_sizeOfGroupOf_4 rfl (lv_at hl 3 rfl) ?_
      refine lv_aload_n hx hb dX0_sizeOfGroupOf_5 rfl (lv_at hl 0 rfl) ?_
      refine r_get (C := RX0) (T := TX0) (N := 4) hx hb hts iiX0_sizeOfGroupOf_0 hown hK h0 rfl 1 (by decide) (hts (.fieldLink RX0 22 "HopMeet$Groups" "userCount" "I") (List.mem_of_getElem? (i := 1) rfl)) rfl dX0_sizeOfGroupOf_6 ?_
      refine r_geN hx hb (by omega) (by omega) dX0_sizeOfGroupOf_9 (tgt := 36) (by decide) (fun c1 => ?_) (fun c1 => ?_)
      · refine lv_iload_n hx hb dX0_sizeOfGroupOf_36 rfl (lv_at hl 2 rfl) ?_
        exact r_retS (v := nI w) hx hb hr hlocks (by rw [hw, show k = i by omega]; rfl) dX0_sizeOfGroupOf_37
      · refine lv_aload_n hx hb dX0_sizeOfGroupOf_12 rfl (lv_at hl 0 rfl) ?_
        refine r_get (C := RX0) (T := TX0) (N := 4) hx hb hts iiX0_sizeOfGroupOf_0 hown hK h0 rfl 2 (by decide) (hts (.fieldLink RX0 9 "HopMeet$Groups" "least" "[I") (List.mem_of_getElem? (i := 2) rfl)) rfl dX0_sizeOfGroupOf_13 ?_
        refine lv_iload_n hx hb dX0_sizeOfGroupOf_16 rfl (lv_at hl 3 rfl) ?_
        refine r_iald hx hb hK h1 rfl i (by omega) (by decide) (v := nI (gr i)) (h3 i c1) dX0_sizeOfGroupOf_17 ?_
        refine lv_aload_n hx hb dX0_sizeOfGroupOf_18 rfl (lv_at hl 0 rfl) ?_
        refine r_get (C := RX0) (T := TX0) (N := 4) hx hb hts iiX0_sizeOfGroupOf_0 hown hK h0 rfl 2 (by decide) (hts (.fieldLink RX0 9 "HopMeet$Groups" "least" "[I") (List.mem_of_getElem? (i := 2) rfl)) rfl dX0_sizeOfGroupOf_19 ?_
        refine lv_iload_n hx hb dX0_sizeOfGroupOf_22 rfl (lv_at hl 1 rfl) ?_
        refine r_iald hx hb hK h1 rfl u (by omega) (by decide) (v := nI (gr u)) (h3 u hu) dX0_sizeOfGroupOf_23 ?_
        refine r_neN hx hb (by have := hg i c1; omega) (by have := hg u hu; omega) dX0_sizeOfGroupOf_24 (tgt := 30) (by decide) (fun c2 => ?_) (fun c2 => ?_)
        · refine lv_iinc (v := nI (i + 1)) (lv' := [(3, .int (nI (i + 1))), (0, .ref a), (1, .int (nI u)), (2, .int (nI w))]) hx hb dX0_sizeOfGroupOf_30 hl (k := 3) rfl (nI_1 _) (by decide) rfl (fun ls hl => ?_)
          refine lv_goto (tgt := 4) hx hb dX0_sizeOfGroupOf_33 (by decide) ?_
          exact ih4 (i + 1) w (by omega) (cnt_n hw (decide_eq_false c2)) (by omega) ls (lv_sub hl [1, 2, 3, 0] rfl)
        · refine lv_iinc (v := nI (w + 1)) (lv' := [(2, .int (nI (w + 1))), (0, .ref a), (1, .int (nI u)), (3, .int (nI i))]) hx hb dX0_sizeOfGroupOf_27 hl (k := 2) rfl (nI_1 _) (by decide) rfl (fun ls hl => ?_)
          refine lv_iinc (v := nI (i + 1)) (lv' := [(3, .int (nI (i + 1))), (2, .int (nI (w + 1))), (0, .ref a), (1, .int (nI u))]) hx hb dX0_sizeOfGroupOf_30 hl (k := 3) rfl (nI_1 _) (by decide) rfl (fun ls hl => ?_)
          refine lv_goto (tgt := 4) hx hb dX0_sizeOfGroupOf_33 (by decide) ?_
          exact ih4 (i + 1) (w + 1) (by omega) (cnt_y hw (decide_eq_true c2)) (by omega) ls (lv_sub hl [2, 3, 1, 0] rfl)
  exact loop4 _ 0 0 (Nat.zero_le _) rfl (Nat.lt_succ_self _) ls (lv_sub hl [2, 3, 1, 0] rfl)

set_option maxRecDepth 20000 in
theorem iiX0_join_0 : ∀ w ∈ wsX00, w ∈ wsX0_join := by decide +kernel
set_option maxHeartbeats 4000000 in
set_option maxRecDepth 100000 in
/-- a group joins another -/
theorem c_X0_join (l : Launch) (G : va_G) (t : gT) (a : Nat) (gr : Nat → Nat) (sl k : Nat) (fo : Nat → Int32) (hg : ∀ u, u < k → gr u < 5) (hk : k ≤ 5) (ld le : Nat) (hld : ld < 5) (hle : le < 5) : Met l yX0_join wsX0_join ({ frames := 0, cells := 0, slots := 0, locals := 0 } : Room) (pc_ [.ref a, .int (nI ld), .int (nI le)] (fun U H => KK G t U ∧ Gq G t a gr sl k fo H)) (qv_ (fun H => Gq G t a (fun u => if gr u = ld then le else gr u) sl k fo H) (iv a (a + 3))) 0 0 (iv a (a + 3)) := by
  refine Met.ofW (cc := cX0_join) (maxL := 4) (ret := none) (by decide) rfl ?_
  intro p e s m args below meth c s₁ B hml hv
  obtain ⟨rfl, hB⟩ := hv
  have hx := B.exec
  have hb := B.bytes
  have hr := B.returns
  have hts := atoms_spec (ws := wsX0_join) B.pre
  have hown : s.vm.findClass RX0 = some m.cls := findClass_of_methodNamed B.named
  have hlocks := B.notSynchronized
  have hK := hB.1
  obtain ⟨fl, f2, h0, h1, h2, h3, h4⟩ := hB.2
  have hS : va_S (iv a (a + 3)) s.heap s.heap [] := va_S.rf
  have hl := lv_entry ([.ref a, .int (nI ld), .int (nI le)]) (n := 4) (Nat.le_of_ble_eq_true rfl)
  rw [lg_entry_eq]
  generalize (lg_sl ([.ref a, .int (nI ld), .int (nI le)]) ++ List.replicate (4 - (lg_sl ([.ref a, .int (nI ld), .int (nI le)])).length) Slot.unset).toArray = ls at hl ⊢
  have hl : lv_has ls 4 [(0, .ref a), (1, .int (nI ld)), (2, .int (nI le))] := hl
  refine lv_iconst (v := nI 0) hx hb dX0_join_0 (by decide) ?_
  refine lv_istore_n (lv' := [(3, .int (nI 0)), (0, .ref a), (1, .int (nI ld)), (2, .int (nI le))]) hx hb dX0_join_1 rfl hl (by decide) rfl (fun ls hl => ?_)
  have loop2 : ∀ (fu : Nat) (i : Nat) (f : Nat → Int32) (hi : i ≤ k) (hf : ∀ u, u < i → f u = nI (if gr u = ld then le else gr u)) (hf2 : ∀ u, i ≤ u → u < k → f u = nI (gr u)) (hfu : k - i < fu) (H : Heap) (locs : List Loc) (h0 : at_ G a (.inr (0, [.int (nI sl), .int (nI k), .ref (a + 1), .ref (a + 2)])) H) (h1 : at_ G (a + 1) (aI t 5 f) H) (h2 : at_ G (a + 2) (aI t 10 f2) H)  (hS : va_S (iv a (a + 3)) s.heap H locs) (ls : Array Slot) (hl : lv_has ls 4 [(0, .ref a), (1, .int (nI ld)), (2, .int (nI le)), (3, .int (nI i))]), W p l e (headSpec wsX0_join ({ frames := 0, cells := 0, slots := 0, locals := 0 } : Room)).room s m ([.ref a, .int (nI ld), .int (nI le)] : List Value).toArray below meth c H locs 0 0 (MQ below (qv_ (fun H => Gq G t a (fun u => if gr u = ld then le else gr u) sl k fo H) (iv a (a + 3))) ([.ref a, .int (nI ld), .int (nI le)] : List Value).toArray s 0 0 (iv a (a + 3))) (F0 m 2 ls []) := by
    intro fu
    induction fu with
    | zero => intro i f hi hf hf2 hfu; exact absurd hfu (Nat.not_lt_zero _)
    | succ fu2 ih2 =>
      intro i f hi hf hf2 hfu H locs h0 h1 h2 hS ls hl
      refine lv_iload_n hx hb dX0_join_2 rfl (lv_at hl 3 rfl) ?_
      refine lv_aload_n hx hb dX0_join_3 rfl (lv_at hl 0 rfl) ?_
      refine r_get (C := RX0) (T := TX0) (N := 4) hx hb hts iiX0_join_0 hown hK h0 rfl 1 (by decide) (hts (.fieldLink RX0 22 "HopMeet$Groups" "userCount" "I") (List.mem_of_getElem? (i := 1) rfl)) rfl dX0_join_4 ?_
      refine r_geN hx hb (by omega) (by omega) dX0_join_7 (tgt := 33) (by decide) (fun c1 => ?_) (fun c1 => ?_)
      · exact r_retV hx hb hr hlocks hS ⟨f, f2, h0, h1, h2, fun u hu => hf u (by omega), h4⟩ dX0_join_33
      · refine lv_aload_n hx hb dX0_join_10 rfl (lv_at hl 0 rfl) ?_
        refine r_get (C := RX0) (T := TX0) (N := 4) hx hb hts iiX0_join_0 hown hK h0 rfl 2 (by decide) (hts (.fieldLink RX0 9 "HopMeet$Groups" "least" "[I") (List.mem_of_getElem? (i := 2) rfl)) rfl dX0_join_11 ?_
        refine lv_iload_n hx hb dX0_join_14 rfl (lv_at hl 3 rfl) ?_
        refine r_iald hx hb hK h1 rfl i (by omega) (by decide) (v := nI (gr i)) (hf2 i (Nat.le_refl _) c1) dX0_join_15 ?_
        refine lv_iload_n hx hb dX0_join_16 rfl (lv_at hl 1 rfl) ?_
        refine r_neN hx hb (by have := hg i c1; omega) (by omega) dX0_join_17 (tgt := 27) (by decide) (fun c2 => ?_) (fun c2 => ?_)
        · refine lv_iinc (v := nI (i + 1)) (lv' := [(3, .int (nI (i + 1))), (0, .ref a), (1, .int (nI ld)), (2, .int (nI le))]) hx hb dX0_join_27 hl (k := 3) rfl (nI_1 _) (by decide) rfl (fun ls hl => ?_)
          refine lv_goto (tgt := 2) hx hb dX0_join_30 (by decide) ?_
          exact ih2 (i + 1) f (by omega) (jo_ext hf (by rw [hf2 i (Nat.le_refl _) c1, if_neg c2])) (fun u h1 h2 => hf2 u (by omega) h2) (by omega) _ _ h0 h1 h2 hS ls (lv_sub hl [1, 2, 3, 0] rfl)
        · refine lv_aload_n hx hb dX0_join_20 rfl (lv_at hl 0 rfl) ?_
          refine r_get (C := RX0) (T := TX0) (N := 4) hx hb hts iiX0_join_0 hown hK h0 rfl 2 (by decide) (hts (.fieldLink RX0 9 "HopMeet$Groups" "least" "[I") (List.mem_of_getElem? (i := 2) rfl)) rfl dX0_join_21 ?_
          refine lv_iload_n hx hb dX0_join_24 rfl (lv_at hl 3 rfl) ?_
          refine lv_iload_n hx hb dX0_join_25 rfl (lv_at hl 2 rfl) ?_
          refine r_iast hx hb hK h1 ⟨by omega, by omega⟩ hS rfl i (by omega) (by decide) dX0_join_26 (fun H locs h1 hz9 hq hS => ?_)
          have h0 := at_kept h0 (hq _ (by omega))
          have h2 := at_kept h2 (hq _ (by omega))
          refine lv_iinc (v := nI (i + 1)) (lv' := [(3, .int (nI (i + 1))), (0, .ref a), (1, .int (nI ld)), (2, .int (nI le))]) hx hb dX0_join_27 hl (k := 3) rfl (nI_1 _) (by decide) rfl (fun ls hl => ?_)
          refine lv_goto (tgt := 2) hx hb dX0_join_30 (by decide) ?_
          exact ih2 (i + 1) (upd f i (nI le)) (by omega) (up_ext hf (by rw [if_pos c2])) (fun u h1 h2 => by rw [pk_un (by omega)]; exact hf2 u (by omega) h2) (by omega) _ _ h0 h1 h2 hS ls (lv_sub hl [1, 2, 3, 0] rfl)
  exact loop2 _ 0 fl (Nat.zero_le _) (fun u h => absurd h (Nat.not_lt_zero _)) (fun u _ h => h3 u h) (Nat.lt_succ_self _) _ _ h0 h1 h2 hS ls (lv_sub hl [1, 2, 3, 0] rfl)

set_option maxRecDepth 20000 in
theorem iiX0_settle_0 : ∀ w ∈ wsX00, w ∈ wsX0_settle := by decide +kernel
set_option maxHeartbeats 4000000 in
set_option maxRecDepth 100000 in
/-- a leader comes to a channel -/
theorem c_X0_settle (l : Launch) (G : va_G) (t : gT) (a : Nat) (gr : Nat → Nat) (sl k : Nat) (fo fo2 : Nat → Int32) (gr2 : Nat → Nat) (hg : ∀ u, u < k → gr u < 5) (hk : k ≤ 5) (u : Nat) (hu : u < 5) (ch : Int32) (hcase : (ch = -1 ∧ (∀ w, w < k → gr2 w = gr w) ∧ (∀ c, c < 10 → fo2 c = fo c)) ∨ (∃ c0, c0 < 10 ∧ ch = nI c0 ∧ fo c0 = -1 ∧ (∀ w, w < k → gr2 w = gr w) ∧ (∀ c, c < 10 → fo2 c = upd fo c0 (nI u) c)) ∨ (∃ c0 L, c0 < 10 ∧ L < 5 ∧ ch = nI c0 ∧ fo c0 = nI L ∧ (∀ w, w < k → gr2 w = if gr w = u then L else gr w) ∧ (∀ c, c < 10 → fo2 c = fo c))) : Met l yX0_settle wsX0_settle ({ frames := 1, cells := 0, slots := 0, locals := 23 } : Room) (pc_ [.ref a, .int (nI u), .int ch] (fun U H => KK G t U ∧ Gq G t a gr sl k fo H)) (qv_ (fun H => Gq G t a gr2 sl k fo2 H) (iv a (a + 3))) 0 0 (iv a (a + 3)) := by
  refine Met.ofW (cc := cX0_settle) (maxL := 3) (ret := none) (by decide) rfl ?_
  intro p e s m args below meth c s₁ B hml hv
  obtain ⟨rfl, hB⟩ := hv
  have hx := B.exec
  have hb := B.bytes
  have hr := B.returns
  have hts := atoms_spec (ws := wsX0_settle) B.pre
  have hown : s.vm.findClass RX0 = some m.cls := findClass_of_methodNamed B.named
  have hlocks := B.notSynchronized
  have hK := hB.1
  obtain ⟨fl, f2, h0, h1, h2, h3, h4⟩ := hB.2
  have hS : va_S (iv a (a + 3)) s.heap s.heap [] := va_S.rf
  have hl := lv_entry ([.ref a, .int (nI u), .int ch]) (n := 3) (Nat.le_of_ble_eq_true rfl)
  rw [lg_entry_eq]
  generalize (lg_sl ([.ref a, .int (nI u), .int ch]) ++ List.replicate (3 - (lg_sl ([.ref a, .int (nI u), .int ch])).length) Slot.unset).toArray = ls at hl ⊢
  have hl : lv_has ls 3 [(0, .ref a), (1, .int (nI u)), (2, .int ch)] := hl
  rcases hcase with ⟨rfl, e1, e2⟩ | ⟨cc0, hc0, rfl, hfo, e1, e2⟩ | ⟨cc0, L0, hc0, hL0, rfl, hfo, e1, e2⟩
  · refine lv_iload_n hx hb dX0_settle_0 rfl (lv_at hl 2 rfl) ?_
    refine lv_iconst (v := (-1)) hx hb dX0_settle_1 (by decide) ?_
    refine lv_icmp_ne (tgt := 6) hx hb dX0_settle_2 (by decide) (fun c1 => absurd rfl c1) (fun _ => ?_)
    exact r_retV hx hb hr hlocks hS (Gq_congr hB.2 (fun w hw => (e1 w hw).symm) (fun c hc => (e2 c hc).symm)) dX0_settle_5
  · refine lv_iload_n hx hb dX0_settle_0 rfl (lv_at hl 2 rfl) ?_
    refine lv_iconst (v := (-1)) hx hb dX0_settle_1 (by decide) ?_
    refine lv_icmp_ne (tgt := 6) hx hb dX0_settle_2 (by decide) (fun _ => ?_) (fun c1 => absurd c1 (nI_m1 (by omega)))
    refine lv_aload_n hx hb dX0_settle_6 rfl (lv_at hl 0 rfl) ?_
    refine r_get (C := RX0) (T := TX0) (N := 4) hx hb hts iiX0_settle_0 hown hK h0 rfl 3 (by decide) (hts (.fieldLink RX0 15 "HopMeet$Groups" "leaderOn" "[I") (List.mem_of_getElem? (i := 1) rfl)) rfl dX0_settle_7 ?_
    refine lv_iload_n hx hb dX0_settle_10 rfl (lv_at hl 2 rfl) ?_
    refine r_iald hx hb hK h2 rfl cc0 (by omega) (by decide) (v := (-1)) ((h4 cc0 hc0).trans hfo) dX0_settle_11 ?_
    refine lv_iconst (v := (-1)) hx hb dX0_settle_12 (by decide) ?_
    refine lv_icmp_ne (tgt := 26) hx hb dX0_settle_13 (by decide) (fun c2 => absurd rfl c2) (fun _ => ?_)
    refine lv_aload_n hx hb dX0_settle_16 rfl (lv_at hl 0 rfl) ?_
    refine r_get (C := RX0) (T := TX0) (N := 4) hx hb hts iiX0_settle_0 hown hK h0 rfl 3 (by decide) (hts (.fieldLink RX0 15 "HopMeet$Groups" "leaderOn" "[I") (List.mem_of_getElem? (i := 1) rfl)) rfl dX0_settle_17 ?_
    refine lv_iload_n hx hb dX0_settle_20 rfl (lv_at hl 2 rfl) ?_
    refine lv_iload_n hx hb dX0_settle_21 rfl (lv_at hl 1 rfl) ?_
    refine r_iast hx hb hK h2 ⟨by omega, by omega⟩ hS rfl cc0 (by omega) (by decide) dX0_settle_22 (fun H locs h2 hz9 hq hS => ?_)
    have h0 := at_kept h0 (hq _ (by omega))
    have h1 := at_kept h1 (hq _ (by omega))
    refine lv_goto (tgt := 37) hx hb dX0_settle_23 (by decide) ?_
    exact r_retV hx hb hr hlocks hS (Gq_congr (gr := gr) (fo := upd fo cc0 (nI u)) ⟨fl, upd f2 cc0 (nI u), h0, h1, h2, h3, fun c hc => up_cong h4 c hc⟩ (fun w hw => (e1 w hw).symm) (fun c hc => (e2 c hc).symm)) dX0_settle_37
  · refine lv_iload_n hx hb dX0_settle_0 rfl (lv_at hl 2 rfl) ?_
    refine lv_iconst (v := (-1)) hx hb dX0_settle_1 (by decide) ?_
    refine lv_icmp_ne (tgt := 6) hx hb dX0_settle_2 (by decide) (fun _ => ?_) (fun c1 => absurd c1 (nI_m1 (by omega)))
    refine lv_aload_n hx hb dX0_settle_6 rfl (lv_at hl 0 rfl) ?_
    refine r_get (C := RX0) (T := TX0) (N := 4) hx hb hts iiX0_settle_0 hown hK h0 rfl 3 (by decide) (hts (.fieldLink RX0 15 "HopMeet$Groups" "leaderOn" "[I") (List.mem_of_getElem? (i := 1) rfl)) rfl dX0_settle_7 ?_
    refine lv_iload_n hx hb dX0_settle_10 rfl (lv_at hl 2 rfl) ?_
    refine r_iald hx hb hK h2 rfl cc0 (by omega) (by decide) (v := nI L0) ((h4 cc0 hc0).trans hfo) dX0_settle_11 ?_
    refine lv_iconst (v := (-1)) hx hb dX0_settle_12 (by decide) ?_
    refine lv_icmp_ne (tgt := 26) hx hb dX0_settle_13 (by decide) (fun _ => ?_) (fun c2 => absurd c2 (nI_m1 (by omega)))
    refine lv_aload_n hx hb dX0_settle_26 rfl (lv_at hl 0 rfl) ?_
    refine lv_iload_n hx hb dX0_settle_27 rfl (lv_at hl 1 rfl) ?_
    refine lv_aload_n hx hb dX0_settle_28 rfl (lv_at hl 0 rfl) ?_
    refine r_get (C := RX0) (T := TX0) (N := 4) hx hb hts iiX0_settle_0 hown hK h0 rfl 3 (by decide) (hts (.fieldLink RX0 15 "HopMeet$Groups" "leaderOn" "[I") (List.mem_of_getElem? (i := 1) rfl)) rfl dX0_settle_29 ?_
    refine lv_iload_n hx hb dX0_settle_32 rfl (lv_at hl 2 rfl) ?_
    refine r_iald hx hb hK h2 rfl cc0 (by omega) (by decide) (v := nI L0) ((h4 cc0 hc0).trans hfo) dX0_settle_33 ?_
    refine r_mV (av := [.int (nI u), .int (nI L0)]) (c_X0_join l G t a gr sl k fo hg hk u L0 hu hL0) ⟨hx, hb, hml, hown, hts⟩ (cwV 2 hts gX0_settle_X0_join rfl rfl rfl (by decide +kernel) ⟨Nat.le_of_ble_eq_true rfl, Nat.le_of_ble_eq_true rfl⟩) mv_K hB (at_recv hK h0 rfl) rfl hl (Nat.le_of_ble_eq_true rfl) ⟨Nat.le_of_ble_eq_true rfl, Nat.le_of_ble_eq_true rfl⟩ rfl dX0_settle_34 hS (fun q h => h) (fun H locs hP hz9 hk hS => ?_)
    exact r_retV hx hb hr hlocks hS (Gq_congr hP (fun w hw => (e1 w hw).symm) (fun c hc => (e2 c hc).symm)) dX0_settle_37

set_option maxRecDepth 20000 in
theorem iiX0_runSlot_0 : ∀ w ∈ wsX00, w ∈ wsX0_runSlot := by decide +kernel
set_option maxRecDepth 20000 in
theorem iiX0_runSlot_2 : ∀ w ∈ wsX20, w ∈ wsX0_runSlot := by decide +kernel
set_option maxHeartbeats 4000000 in
set_option maxRecDepth 100000 in
/-- a slot is run -/
theorem c_X0_runSlot (l : Launch) (G : va_G) (t : gT) (a : Nat) (gr : Nat → Nat) (sl k : Nat) (z : Nat → Int32) (o : Nat) (hz : WF z) (hsep : a + 3 ≤ o ∨ o + 16 ≤ a) (hkz : k = cu z) (hsl : sl < 3000) (hg : ∀ u, gr u ≤ u) (hg2 : ∀ u, gr (gr u) = gr u) : Met l yX0_runSlot wsX0_runSlot ({ frames := 4, cells := 0, slots := 0, locals := 99 } : Room) (pc_ [.ref a, .ref o] (fun U H => KK G t U ∧ (Gp G t a gr sl k H ∧ Sc G t o z H))) (qv_ (fun H => Gp G t a (grS z gr sl) (sl + 1) k H) (iv a (a + 3))) 0 0 (iv a (a + 3)) := by
  refine Met.ofW (cc := cX0_runSlot) (maxL := 3) (ret := none) (by decide) rfl ?_
  intro p e s m args below meth c s₁ B hml hv
  obtain ⟨rfl, hB⟩ := hv
  have hx := B.exec
  have hb := B.bytes
  have hr := B.returns
  have hts := atoms_spec (ws := wsX0_runSlot) B.pre
  have hown : s.vm.findClass RX0 = some m.cls := findClass_of_methodNamed B.named
  have hlocks := B.notSynchronized
  have hK := hB.1
  have hSc := hB.2.2
  obtain ⟨fo, fl, f2, h0, h1, h2, h3, h4⟩ := hB.2.1
  have hu5 := hz.u5
  have hs0 := Sc_obj hSc
  have hS : va_S (iv a (a + 3)) s.heap s.heap [] := va_S.rf
  have hl := lv_entry ([.ref a, .ref o]) (n := 3) (Nat.le_of_ble_eq_true rfl)
  rw [lg_entry_eq]
  generalize (lg_sl ([.ref a, .ref o]) ++ List.replicate (3 - (lg_sl ([.ref a, .ref o])).length) Slot.unset).toArray = ls at hl ⊢
  have hl : lv_has ls 3 [(0, .ref a), (1, .ref o)] := hl
  refine lv_iconst (v := nI 0) hx hb dX0_runSlot_0 (by decide) ?_
  refine lv_istore_n (lv' := [(2, .int (nI 0)), (0, .ref a), (1, .ref o)]) hx hb dX0_runSlot_1 rfl hl (by decide) rfl (fun ls hl => ?_)
  have loop2 : ∀ (fu : Nat) (j : Nat) (f : Nat → Int32) (hj : j ≤ 10) (hf : ∀ c, c < j → f c = -1) (hfu : 10 - j < fu) (H : Heap) (locs : List Loc) (h0 : at_ G a (.inr (0, [.int (nI sl), .int (nI k), .ref (a + 1), .ref (a + 2)])) H) (h1 : at_ G (a + 1) (aI t 5 fl) H) (h2 : at_ G (a + 2) (aI t 10 f) H) (hSc : Sc G t o z H) (hS : va_S (iv a (a + 3)) s.heap H locs) (ls : Array Slot) (hl : lv_has ls 3 [(0, .ref a), (1, .ref o), (2, .int (nI j))]), W p l e (headSpec wsX0_runSlot ({ frames := 4, cells := 0, slots := 0, locals := 99 } : Room)).room s m ([.ref a, .ref o] : List Value).toArray below meth c H locs 0 0 (MQ below (qv_ (fun H => Gp G t a (grS z gr sl) (sl + 1) k H) (iv a (a + 3))) ([.ref a, .ref o] : List Value).toArray s 0 0 (iv a (a + 3))) (F0 m 2 ls []) := by
    intro fu
    induction fu with
    | zero => intro j f hj hf hfu; exact absurd hfu (Nat.not_lt_zero _)
    | succ fu2 ih2 =>
      intro j f hj hf hfu H locs h0 h1 h2 hSc hS ls hl
      refine lv_iload_n hx hb dX0_runSlot_2 rfl (lv_at hl 2 rfl) ?_
      refine lv_bipush (v := nI 10) hx hb dX0_runSlot_3 (by decide) ?_
      refine r_geN hx hb (by omega) (by omega) dX0_runSlot_5 (tgt := 21) (by decide) (fun c1 => ?_) (fun c1 => ?_)
      · refine lv_iconst (v := nI 0) hx hb dX0_runSlot_21 (by decide) ?_
        refine lv_istore_n (lv' := [(2, .int (nI 0)), (0, .ref a), (1, .ref o)]) hx hb dX0_runSlot_22 rfl hl (by decide) rfl (fun ls hl => ?_)
        have hG : Gq G t a (gI z gr sl 0) sl k (fI z gr sl 0) H := ⟨fl, f, h0, h1, h2, fun u hu => by rw [gI_0]; exact h3 u hu, fun c hc => by rw [fI_0]; exact hf c (by omega)⟩
        have loop23 : ∀ (fu : Nat) (i : Nat) (hi : i ≤ k) (hfu : k - i < fu) (H : Heap) (locs : List Loc)  (hSc : Sc G t o z H) (hG : Gq G t a (gI z gr sl i) sl k (fI z gr sl i) H) (hS : va_S (iv a (a + 3)) s.heap H locs) (ls : Array Slot) (hl : lv_has ls 3 [(0, .ref a), (1, .ref o), (2, .int (nI i))]), W p l e (headSpec wsX0_runSlot ({ frames := 4, cells := 0, slots := 0, locals := 99 } : Room)).room s m ([.ref a, .ref o] : List Value).toArray below meth c H locs 0 0 (MQ below (qv_ (fun H => Gp G t a (grS z gr sl) (sl + 1) k H) (iv a (a + 3))) ([.ref a, .ref o] : List Value).toArray s 0 0 (iv a (a + 3))) (F0 m 23 ls []) := by
          intro fu
          induction fu with
          | zero => intro i hi hfu; exact absurd hfu (Nat.not_lt_zero _)
          | succ fu23 ih23 =>
            intro i hi hfu H locs hSc hG hS ls hl
            obtain ⟨fl, f2, h0, h1, h2, h3, h4⟩ := id hG
            have hgb : ∀ w, w < k → gI z gr sl i w < 5 := fun w hw => by have q1 := gI_le z gr sl i w; have q2 := hg w; omega
            refine lv_iload_n hx hb dX0_runSlot_23 rfl (lv_at hl 2 rfl) ?_
            refine lv_aload_n hx hb dX0_runSlot_24 rfl (lv_at hl 0 rfl) ?_
            refine r_get (C := RX0) (T := TX0) (N := 4) hx hb hts iiX0_runSlot_0 hown hK h0 rfl 1 (by decide) (hts (.fieldLink RX0 22 "HopMeet$Groups" "userCount" "I") (List.mem_of_getElem? (i := 2) rfl)) rfl dX0_runSlot_25 ?_
            refine r_geN hx hb (by omega) (by omega) dX0_runSlot_28 (tgt := 61) (by decide) (fun c3 => ?_) (fun c3 => ?_)
            · refine lv_aload_n hx hb dX0_runSlot_61 rfl (lv_at hl 0 rfl) ?_
              refine lv_dup hx hb dX0_runSlot_62 rfl ?_
              refine r_get (C := RX0) (T := TX0) (N := 4) hx hb hts iiX0_runSlot_0 hown hK h0 rfl 0 (by decide) (hts (.fieldLink RX0 18 "HopMeet$Groups" "slotsRun" "I") (List.mem_of_getElem? (i := 4) rfl)) rfl dX0_runSlot_63 ?_
              refine lv_iconst (v := nI 1) hx hb dX0_runSlot_66 (by decide) ?_
              refine r_iaddN hx hb dX0_runSlot_67 ?_
              refine r_put (ty := .int) (ci := 0) (C := RX0) (T := TX0) (N := 4) (fs' := [.int (nI (sl + 1)), .int (nI k), .ref (a + 1), .ref (a + 2)]) hx hb hts iiX0_runSlot_0 tyX0 tyX0_ok nmX0 hown hK h0 ⟨by omega, by omega⟩ hS rfl 0 (by decide) (hts (.fieldLink RX0 18 "HopMeet$Groups" "slotsRun" "I") (List.mem_of_getElem? (i := 4) rfl)) rfl (by decide +kernel) rfl rfl (Nat.le_of_ble_eq_true rfl) rfl dX0_runSlot_68 (fun H locs h0 hz9 hq hS => ?_)
              have h1 := at_kept h1 (hq _ (by omega))
              have h2 := at_kept h2 (hq _ (by omega))
              have hSc := Sc_kept hSc (fun q h1 h2 => hq q (by omega))
              have hG := hG
              exact r_retV hx hb hr hlocks hS ⟨_, fl, f2, h0, h1, h2, fun u hu => by rw [h3 u hu, show i = k by omega, gI_end hg hu], h4⟩ dX0_runSlot_71
            · refine lv_aload_n hx hb dX0_runSlot_31 rfl (lv_at hl 0 rfl) ?_
              refine r_get (C := RX0) (T := TX0) (N := 4) hx hb hts iiX0_runSlot_0 hown hK h0 rfl 2 (by decide) (hts (.fieldLink RX0 9 "HopMeet$Groups" "least" "[I") (List.mem_of_getElem? (i := 3) rfl)) rfl dX0_runSlot_32 ?_
              refine lv_iload_n hx hb dX0_runSlot_35 rfl (lv_at hl 2 rfl) ?_
              refine r_iald hx hb hK h1 rfl i (by omega) (by decide) (v := nI (gI z gr sl i i)) (h3 i c3) dX0_runSlot_36 ?_
              refine lv_iload_n hx hb dX0_runSlot_37 rfl (lv_at hl 2 rfl) ?_
              refine r_neN hx hb (by have := hgb i c3; omega) (by omega) dX0_runSlot_38 (tgt := 55) (by decide) (fun c5 => ?_) (fun c5 => ?_)
              · have c4 : ¬ gr i = i := fun q => c5 ((gI_lead hg i).mpr q)
                refine lv_iinc (v := nI (i + 1)) (lv' := [(2, .int (nI (i + 1))), (0, .ref a), (1, .ref o)]) hx hb dX0_runSlot_55 hl (k := 2) rfl (nI_1 _) (by decide) rfl (fun ls hl => ?_)
                refine lv_goto (tgt := 23) hx hb dX0_runSlot_58 (by decide) ?_
                exact ih23 (i + 1) (by omega) (by omega) _ _ hSc (Gq_congr hG (fun w _ => ((slot_skip hg2 c4).1 w).symm) (fun c _ => ((slot_skip hg2 c4).2 c).symm)) hS ls (lv_sub hl [1, 2, 0] rfl)
              · have c4 : gr i = i := (gI_lead hg i).mp c5
                refine lv_aload_n hx hb dX0_runSlot_41 rfl (lv_at hl 0 rfl) ?_
                refine lv_iload_n hx hb dX0_runSlot_42 rfl (lv_at hl 2 rfl) ?_
                refine lv_aload_n hx hb dX0_runSlot_43 rfl (lv_at hl 1 rfl) ?_
                refine lv_iload_n hx hb dX0_runSlot_44 rfl (lv_at hl 2 rfl) ?_
                refine lv_aload_n hx hb dX0_runSlot_45 rfl (lv_at hl 0 rfl) ?_
                refine r_get (C := RX0) (T := TX0) (N := 4) hx hb hts iiX0_runSlot_0 hown hK h0 rfl 0 (by decide) (hts (.fieldLink RX0 18 "HopMeet$Groups" "slotsRun" "I") (List.mem_of_getElem? (i := 4) rfl)) rfl dX0_runSlot_46 ?_
                refine r_cV (av := [.int (nI i), .int (nI sl)]) (c_X2_place l G t o z hz i sl (by omega) (by omega)) ⟨hx, hb, hml, hown, hts⟩ (cwV 2 hts gX0_runSlot_X2_place rfl rfl rfl (by decide +kernel) ⟨Nat.le_of_ble_eq_true rfl, Nat.le_of_ble_eq_true rfl⟩) mv_K ⟨hK, hSc⟩ (at_recv hK (Sc_obj hSc) rfl) rfl hl (Nat.le_of_ble_eq_true rfl) ⟨Nat.le_of_ble_eq_true rfl, Nat.le_of_ble_eq_true rfl⟩ rfl dX0_runSlot_49 (fun r1 hr1 => ?_)
                subst hr1
                refine r_mV (av := [.int (nI i), .int (plC z i sl)]) (c_X0_settle l G t a (gI z gr sl i) sl k (fI z gr sl i) (fI z gr sl (i + 1)) (gI z gr sl (i + 1)) hgb (by omega) i (by omega) (plC z i sl) (slot_case hz (by omega) c4)) ⟨hx, hb, hml, hown, hts⟩ (cwV 2 hts gX0_runSlot_X0_settle rfl rfl rfl (by decide +kernel) ⟨Nat.le_of_ble_eq_true rfl, Nat.le_of_ble_eq_true rfl⟩) mv_K ⟨hK, hG⟩ (at_recv hK h0 rfl) rfl hl (Nat.le_of_ble_eq_true rfl) ⟨Nat.le_of_ble_eq_true rfl, Nat.le_of_ble_eq_true rfl⟩ rfl dX0_runSlot_52 hS (fun q h => h) (fun H locs hP hz9 hk hS => ?_)
                have hSc := Sc_keptA hSc hk (fun q h1 h2 => iv_no (by omega))
                have hG := hP
                refine lv_iinc (v := nI (i + 1)) (lv' := [(2, .int (nI (i + 1))), (0, .ref a), (1, .ref o)]) hx hb dX0_runSlot_55 hl (k := 2) rfl (nI_1 _) (by decide) rfl (fun ls hl => ?_)
                refine lv_goto (tgt := 23) hx hb dX0_runSlot_58 (by decide) ?_
                exact ih23 (i + 1) (by omega) (by omega) _ _ hSc hG hS ls (lv_sub hl [1, 2, 0] rfl)
        exact loop23 _ 0 (Nat.zero_le _) (Nat.lt_succ_self _) _ _ hSc hG hS ls (lv_sub hl [1, 2, 0] rfl)
      · refine lv_aload_n hx hb dX0_runSlot_8 rfl (lv_at hl 0 rfl) ?_
        refine r_get (C := RX0) (T := TX0) (N := 4) hx hb hts iiX0_runSlot_0 hown hK h0 rfl 3 (by decide) (hts (.fieldLink RX0 15 "HopMeet$Groups" "leaderOn" "[I") (List.mem_of_getElem? (i := 1) rfl)) rfl dX0_runSlot_9 ?_
        refine lv_iload_n hx hb dX0_runSlot_12 rfl (lv_at hl 2 rfl) ?_
        refine lv_iconst (v := (-1)) hx hb dX0_runSlot_13 (by decide) ?_
        refine r_iast hx hb hK h2 ⟨by omega, by omega⟩ hS rfl j (by omega) (by decide) dX0_runSlot_14 (fun H locs h2 hz9 hq hS => ?_)
        have h0 := at_kept h0 (hq _ (by omega))
        have h1 := at_kept h1 (hq _ (by omega))
        have hSc := Sc_kept hSc (fun q h1 h2 => hq q (by omega))
        refine lv_iinc (v := nI (j + 1)) (lv' := [(2, .int (nI (j + 1))), (0, .ref a), (1, .ref o)]) hx hb dX0_runSlot_15 hl (k := 2) rfl (nI_1 _) (by decide) rfl (fun ls hl => ?_)
        refine lv_goto (tgt := 2) hx hb dX0_runSlot_18 (by decide) ?_
        exact ih2 (j + 1) (upd f j (-1)) (by omega) (up_ext (g := fun _ => -1) hf rfl) (by omega) _ _ h0 h1 h2 hSc hS ls (lv_sub hl [1, 2, 0] rfl)
  exact loop2 _ 0 f2 (Nat.zero_le _) (fun u h => absurd h (Nat.not_lt_zero _)) (Nat.lt_succ_self _) _ _ h0 h1 h2 hSc hS ls (lv_sub hl [1, 2, 0] rfl)
end
section
/-! rows of my own, on: cells that are made, copies, arrays of scenes -/
section RW3
variable {p : Program} {l : Launch} {e : Env} {R : Room} {s : State} {m : MethodId} {args : Array Value} {below : List Frame} {meth : Method} {c : Code} {H : Heap} {locs : List Loc} {cells slots : Nat} {Q : State → Prop}
variable {cc : ByteArray} {pc : Nat} {ls : Array Slot} {rest : List Value} {D : va_G} {cl : List vw_C} {A : Nat → Prop} {a : Nat} {tys : List (ClassId × FieldType)} {H0 : Heap}
theorem va_S.more {H1 : Heap} (h : va_S A H0 H locs) (z : H.size ≤ H1.size) (o : ∀ q : Nat, q < H.size → H1[q]? = H[q]?) : va_S A H0 H1 locs :=
  ⟨Nat.le_trans h.1 z, fun q h1 h2 => (o q (Nat.lt_of_lt_of_le h1 h.1)).trans (h.2.1 q h1 h2), h.2.2⟩
theorem r_new (hexec : p.tables.exec = Jvm.exec) (hb : c.code = cc) {own C : String} {T : u_T} {N ci index : Nat} {Ts : List Cond} (hts : ∀ w ∈ Ts, w.before args s = true) (hin : ∀ w ∈ u_ws C T N, w ∈ Ts) (ty : Nat → FieldType) (hty : ∀ k, k < N → parseFieldDescriptor (T k).2.2.1 = some (ty k)) (hown : s.vm.findClass own = some m.cls) (hcl : (Cond.classLink own index C).before args s = true) (hinst : (Cond.instantiable C N).before args s = true) (hini : (Cond.initialized C).before args s = true)
    (hK : va_K D cl tys s) (hS : va_S A H0 H locs) (hc : cl[ci]? = some (C, T, N)) {fs : List Value} (hfs : ∀ j, j < N → defaultValue (ty j) = vp_V fs j) (hcells : cells + 1 ≤ R.cells) (hslots : slots + N ≤ R.slots) (hdg : decode cc pc = .ok (.new index, 3)) {h : Nat} (hh : H.size = h)
    (kk : ∀ H1 : Heap, va_at D cl (h, .inr (ci, fs)) H1 → H1.size = h + 1 → (∀ q : Nat, q < h → H1[q]? = H[q]?) → va_S A H0 H1 locs → W p l e R s m args below meth c H1 locs (cells + 1) (slots + N) Q (F0 m (pc + 3) ls (.ref h :: rest))) : W p l e R s m args below meth c H locs cells slots Q (F0 m pc ls rest) := by
  subst hh
  have hKn := hK.1 ci _ hc
  refine W.newcK hexec hb hown hcl hinst hini rfl hdg hcells hslots hKn.2.1 rfl fun H1 kC hkC e1 z1 o1 => ?_
  exact kk H1 ⟨_, hc, (u_born ty hts hin hKn hkC e1 hty).to hfs⟩ z1 o1 (hS.more (by omega) o1)
theorem r_newI (hexec : p.tables.exec = Jvm.exec) (hb : c.code = cc) (harr : (Cond.arrayClass (newarray.typeOf .int)).before args s = true) (hK : va_K D cl tys s) {cA : ClassId} (ht : tys[0]? = some (cA, .int)) (hS : va_S A H0 H locs) (N : Nat) (hN : N < 2 ^ 31) (hbytes : N * componentBytes .int ≤ 536870912) (hcells : cells + 1 ≤ R.cells) (hslots : slots + N ≤ R.slots) (hdg : decode cc pc = .ok (.newarray .int, 2)) {h : Nat} (hh : H.size = h)
    (kk : ∀ H1 : Heap, va_at D cl (h, .inl (cA, N, .inl (fun _ => 0))) H1 → H1.size = h + 1 → (∀ q : Nat, q < h → H1[q]? = H[q]?) → va_S A H0 H1 locs → W p l e R s m args below meth c H1 locs (cells + 1) (slots + N) Q (F0 m (pc + 2) ls (.ref h :: rest))) : W p l e R s m args below meth c H locs cells slots Q (F0 m pc ls (.int (nI N) :: rest)) := by
  refine va_newaK hexec hb harr rfl hdg rfl (nI_pos hN) (nI_clamp hN) hbytes hcells hslots hh fun H1 cB e1 z1 o1 hAr hNm => ?_
  have hq : cB = cA := Option.some.inj (hNm.symm.trans (hK.2 0 _ ht).2)
  subst hq
  exact kk H1 (show H1[h]? = _ from e1) z1 (fun q hq => by subst hh; exact o1 q hq) (hS.more (by omega) (fun q hq => by subst hh; exact o1 q hq))
theorem r_newZ (hexec : p.tables.exec = Jvm.exec) (hb : c.code = cc) (harr : (Cond.arrayClass (newarray.typeOf .boolean)).before args s = true) (hK : va_K D cl tys s) {cA : ClassId} (ht : tys[2]? = some (cA, .boolean)) (hS : va_S A H0 H locs) (N : Nat) (hN : N < 2 ^ 31) (hbytes : N * componentBytes .boolean ≤ 536870912) (hcells : cells + 1 ≤ R.cells) (hslots : slots + N ≤ R.slots) (hdg : decode cc pc = .ok (.newarray .boolean, 2)) {h : Nat} (hh : H.size = h)
    (kk : ∀ H1 : Heap, va_at D cl (h, .inl (cA, N, .inl (fun _ => 0))) H1 → H1.size = h + 1 → (∀ q : Nat, q < h → H1[q]? = H[q]?) → va_S A H0 H1 locs → W p l e R s m args below meth c H1 locs (cells + 1) (slots + N) Q (F0 m (pc + 2) ls (.ref h :: rest))) : W p l e R s m args below meth c H locs cells slots Q (F0 m pc ls (.int (nI N) :: rest)) := by
  refine va_newaK hexec hb harr rfl hdg rfl (nI_pos hN) (nI_clamp hN) hbytes hcells hslots hh fun H1 cB e1 z1 o1 hAr hNm => ?_
  have hq : cB = cA := Option.some.inj (hNm.symm.trans (hK.2 2 _ ht).2)
  subst hq
  exact kk H1 (show H1[h]? = _ from e1) z1 (fun q hq => by subst hh; exact o1 q hq) (hS.more (by omega) (fun q hq => by subst hh; exact o1 q hq))
theorem r_newQ (hexec : p.tables.exec = Jvm.exec) (hb : c.code = cc) {own C : String} {index : Nat} (hown : s.vm.findClass own = some m.cls) (hclink : (Cond.classLink own index C).before args s = true) (hover : (Cond.arrayOver (.object C)).before args s = true) (hK : va_K D cl tys s) {cA : ClassId} (ht : tys[3]? = some (cA, .object C)) (hS : va_S A H0 H locs) (N : Nat) (hN : N < 2 ^ 31) (hbytes : N * 4 ≤ 536870912) (hcells : cells + 1 ≤ R.cells) (hslots : slots + N ≤ R.slots) (hdg : decode cc pc = .ok (.anewarray index, 3)) {h : Nat} (hh : H.size = h)
    (kk : ∀ H1 : Heap, va_at D cl (h, .inl (cA, N, .inr (.inr (.inr (.inr (fun _ => none)))))) H1 → H1.size = h + 1 → (∀ q : Nat, q < h → H1[q]? = H[q]?) → va_S A H0 H1 locs → W p l e R s m args below meth c H1 locs (cells + 1) (slots + N) Q (F0 m (pc + 3) ls (.ref h :: rest))) : W p l e R s m args below meth c H locs cells slots Q (F0 m pc ls (.int (nI N) :: rest)) := by
  subst hh
  have hc : (nI N).toNatClampNeg = N := nI_clamp hN
  refine W.anew hexec hb hown hclink hover rfl hdg rfl (nI_pos hN) (by rw [hc]; exact hbytes) hcells (by rw [hc]; exact hslots) fun cB kA comp f1 f2 f3 f4 => ?_
  obtain ⟨kA2, comp2, g1, g2, g3, g4⟩ := (hK.2 3 _ ht).2
  have hq : cB = cA := Option.some.inj (f1.symm.trans g4)
  subst hq
  rw [hc]
  have o1 : ∀ q : Nat, q < H.size → (H.push ({ cls := cB, slots := Array.replicate N .null, vm := .none } : Cell))[q]? = H[q]? := fun q hq => by rw [Array.getElem?_push, if_neg (Nat.ne_of_lt hq)]
  refine kk _ ?_ (Array.size_push ..) o1 (hS.more (by rw [Array.size_push]; omega) o1)
  show (H.push _)[H.size]? = some (vp_cell _ _)
  rw [vp_cell_q, Array.getElem?_push_size, arrV_new]
  rfl
theorem r_qast (hexec : p.tables.exec = Jvm.exec) (hb : c.code = cc) (hK : va_K D cl tys s) {cA : ClassId} {r : vw_C} {n v ci : Nat} {vs : List Value} {f : Nat → Option Nat} (hat : va_at D cl (a, .inl (cA, n, .inr (.inr (.inr (.inr f))))) H) (ha : A a) (hS : va_S A H0 H locs) (ht : tys[3]? = some (cA, .object r.1)) (hv : va_at D cl (v, .inr (ci, vs)) H) (hc : cl[ci]? = some r) (j : Nat) (hj : j < n) (hn : n < 2 ^ 31) (hdg : decode cc pc = .ok (.aastore, 1))
    (kk : ∀ (H1 : Heap) (locs1 : List Loc), va_at D cl (a, .inl (cA, n, .inr (.inr (.inr (.inr (va_up f j (some v))))))) H1 → H1.size = H.size → (∀ q : Nat, q ≠ a → H1[q]? = H[q]?) → va_S A H0 H1 locs1 → W p l e R s m args below meth c H1 locs1 cells slots Q (F0 m (pc + 1) ls rest)) : W p l e R s m args below meth c H locs cells slots Q (F0 m pc ls (.ref v :: .int (nI j) :: .ref a :: rest)) := by
  have hcj : (nI j).toNatClampNeg = j := nI_clamp (Nat.lt_trans hj hn)
  have h0 : ¬ nI j < 0 := nI_pos (Nat.lt_trans hj hn)
  obtain ⟨r', hr', cellV, g1, g2, g3, -⟩ := hv
  have hcls := (hK.1 ci r hc).2
  obtain ⟨kA, comp, k1, k2, k3, -⟩ := (hK.2 3 _ ht).2
  have hcomp : comp = D.1 ci := Option.some.inj (k3.symm.trans hcls.1)
  subst hcomp
  obtain ⟨kC, hkC, -⟩ := hcls.2
  refine W.aast hexec hb hat (fun q h => by cases h) (fun h => by cases h) k1 k2 rfl hkC ⟨h0, by show _ < (arrV _ _ _).slots.size; rw [arrV_size, hcj]; exact hj⟩ g1 (fun q h => by rw [g3] at h; cases h) (by rw [g2]; exact hkC) (by rw [g2]; exact va_assign hcls) rfl rfl hdg fun H1 e z oq => ?_
  refine kk H1 _ ?_ z oq (hS.put z oq ha)
  show H1[a]? = some (vp_cell _ _)
  rw [e, hcj, vp_cell_q, vp_cell_q, arrV_store]
  congr 2
  funext q
  by_cases hq : q = j
  · subst hq
    simp [updV, va_up, va_rf]
  · simp [updV, va_up, hq]
/-- System.arraycopy of the first k of a row of ints -/
theorem r_copyi (hexec : p.tables.exec = Jvm.exec) (hb : c.code = cc) (hml : c.maxLocals = ls.size) {own : String} {index : Nat} (hown : s.vm.findClass own = some m.cls) (hlink : (Cond.methodLink own index arraycopyName).before args s = true) (hnat : (Cond.native arraycopyName).before args s = true) (hstat : (Cond.static arraycopyName).before args s = true) (hini : (Cond.initialized "java/lang/System").before args s = true)
    (hK : va_K D cl tys s) {cA : ClassId} {a0 n0 n1 : Nat} {f g : Nat → Int32} (hc0 : va_at D cl (a0, .inl (cA, n0, .inl f)) H) (hc1 : va_at D cl (a, .inl (cA, n1, .inl g)) H) (ha : A a) (hS : va_S A H0 H locs) (ht : tys[0]? = some (cA, .int)) (k : Nat) (hk0 : k ≤ n0) (hk1 : k ≤ n1) (hkb : k < 2 ^ 31)
    (hframes : 1 ≤ R.frames) (hlocals : (rest.map fun v => v.category).sum + (nativeFrameWords "java/lang/System" "arraycopy" 5 + 11) ≤ R.locals) (hdg : decode cc pc = .ok (.invokestatic index, 3))
    (kk : ∀ (H1 : Heap) (locs1 : List Loc), va_at D cl (a, .inl (cA, n1, .inl (fun j => if j < k then f j else g j))) H1 → H1.size = H.size → (∀ q : Nat, q ≠ a → H1[q]? = H[q]?) → va_S A H0 H1 locs1 → W p l e R s m args below meth c H1 locs1 cells slots Q (F0 m (pc + 3) ls rest)) : W p l e R s m args below meth c H locs cells slots Q (F0 m pc ls (.int (nI k) :: .int (nI 0) :: .ref a :: .int (nI 0) :: .ref a0 :: rest)) := by
  have t0 : (nI 0).toInt = 0 := by decide
  have tk : (nI k).toInt = (k : Int) := nI_toInt hkb
  have z0 : (nI 0).toNatClampNeg = 0 := by decide
  have zk : (nI k).toNatClampNeg = k := nI_clamp hkb
  intro T hT X
  have hc0' : H[a0]? = some (vp_cell cA (n0, .inl f)) := hc0
  have hc1' : H[a]? = some (vp_cell cA (n1, .inl g)) := hc1
  obtain ⟨-, k0, hq0, cm0, hkk0⟩ := (hK.2 0 _ ht).1 n0 (fun j => .int (f j))
  obtain ⟨-, k1, hq1, cm1, hkk1⟩ := (hK.2 0 _ ht).1 n1 (fun j => .int (g j))
  obtain ⟨vm', X', step⟩ := X.arraycopy hexec hown hlink hnat hstat hini (src := a0) (dst := a) (cs := vp_cell cA (n0, .inl f)) (cd := vp_cell cA (n1, .inl g)) (srcPos := nI 0) (destPos := nI 0) (n := nI k) (by rw [hT]; exact hc0') (by rw [hT]; exact hc1')
    (fun _ h => by cases h) (fun _ h => by cases h) (fun h => by cases h) (fun h => by cases h) hq0 hq1 hkk0 hkk1 rfl (nI_pos (by decide)) (nI_pos (by decide)) (nI_pos hkb)
    (by rw [t0, tk]; show ¬ _ > ((arrV cA n0 (fun j => .int (f j))).slots.size : Int); rw [arrV_size]; omega)
    (by rw [t0, tk]; show ¬ _ > ((arrV cA n1 (fun j => .int (g j))).slots.size : Int); rw [arrV_size]; omega)
    (fun vm₁ _ i hi => by
      rw [zk] at hi
      have e : (vp_cell cA (n0, .inl f)).slots.getD ((nI 0).toNatClampNeg + i) .null = .int (f i) := by
        show (arrV cA n0 (fun j => .int (f j))).slots.getD _ _ = _
        rw [z0, Nat.zero_add, Array.getD_eq_getD_getElem?, arrV_read _ _ (by omega)]
        rfl
      exact ⟨by rw [e]; rfl, by rw [e]; exact trivial⟩)
    (g := F0 m pc ls (.int (nI k) :: .int (nI 0) :: .ref a :: .int (nI 0) :: .ref a0 :: rest)) rfl (by rw [hml]) (rest := rest) rfl (by rw [hb]; exact hdg) hframes (by show 2 * 0 + _ + _ ≤ _; omega)
  have e1 : copied (vp_cell cA (n0, .inl f)) (vp_cell cA (n1, .inl g)) (nI 0) (nI 0) (nI k) = vp_cell cA (n1, .inl (fun j => if j < k then f j else g j)) := by
    refine (va_copied (fun z => .int z) cA cA f g (by rw [z0, zk]; omega)).trans ?_
    rw [z0, zk, vp_cell_i]
    congr 1
    funext j
    congr 1
    by_cases hj : j < k <;> simp [va_cpy, hj]
  rw [e1] at X' step
  have hl : a < H.size := (Array.getElem?_eq_some_iff.mp hc1').1
  have oq : ∀ q : Nat, q ≠ a → (H.setIfInBounds a (vp_cell cA (n1, .inl (fun j => if j < k then f j else g j))))[q]? = H[q]? := fun q hq => by simp [Array.getElem?_setIfInBounds, Ne.symm hq]
  obtain ⟨t, a1, b1⟩ := kk (H.setIfInBounds a (vp_cell cA (n1, .inl (fun j => if j < k then f j else g j)))) _ (show (H.setIfInBounds a _)[a]? = some _ by simp [Array.getElem?_setIfInBounds, hl]) (by simp) oq ⟨by simp; exact hS.1, fun q g1 g2 => by
      rw [oq q (fun e => g2 (by rw [e]; exact ha))]
      exact hS.2.1 q g1 g2, fun q hq => by
      rcases List.mem_append.mp hq with h | h
      · exact hS.2.2 q h
      · obtain ⟨z, -, hz⟩ := List.mem_map.mp h
        rw [← hz]
        exact ha⟩ _ (by rw [← hT]; rfl) X'
  exact ⟨t, step t a1, b1⟩
/-- new int[N][M]: the rows lie behind the outer array -/
theorem r_mna (hexec : p.tables.exec = Jvm.exec) (hb : c.code = cc) {own : String} {index : Nat} (hown : s.vm.findClass own = some m.cls) (hclink : (Cond.classLink own index ("[" ++ (FieldType.array .int).toString)).before args s = true) (hover : (Cond.arrayOver (.array .int)).before args s = true) (harr : (Cond.arrayClass .int).before args s = true)
    (hK : va_K D cl tys s) {cA cB : ClassId} (ht : tys[0]? = some (cA, .int)) (ht1 : tys[1]? = some (cB, .array .int)) (hS : va_S A H0 H locs) (N M : Nat) (hN : N < 100) (hM : M < 100) (hcells : cells + (1 + N) ≤ R.cells) (hslots : slots + (N + N * M) ≤ R.slots) (hdg : decode cc pc = .ok (.multianewarray index 2, 4)) {h : Nat} (hh : H.size = h)
    (kk : ∀ H1 : Heap, va_at D cl (h, .inl (cB, N, .inr (.inr (.inr (.inr (fun i => if i < N then some (h + 1 + i) else none)))))) H1 → (∀ i, i < N → va_at D cl (h + 1 + i, .inl (cA, M, .inl (fun _ => 0))) H1) → H1.size = h + 1 + N → (∀ q : Nat, q < h → H1[q]? = H[q]?) → va_S A H0 H1 locs →
      W p l e R s m args below meth c H1 locs (cells + (1 + N)) (slots + (N + N * M)) Q (F0 m (pc + 4) ls (.ref h :: rest))) : W p l e R s m args below meth c H locs cells slots Q (F0 m pc ls (.int (nI M) :: .int (nI N) :: rest)) := by
  subst hh
  have hcN : (nI N).toNatClampNeg = N := nI_clamp (by omega)
  have hcM : (nI M).toNatClampNeg = M := nI_clamp (by omega)
  intro T hT Xs
  have hcb : componentBytes FieldType.int ≤ 8 := by decide
  have hmul : M * componentBytes FieldType.int ≤ 100 * 8 := Nat.mul_le_mul (by omega) hcb
  obtain ⟨vm₁, cX, comp, -, fA, fC, hO, -, X', step⟩ := Xs.multianewarray2F hexec hown hclink hover harr (g := F0 m pc ls (.int (nI M) :: .int (nI N) :: rest)) rfl (by rw [hb]; exact hdg) rfl (nI_pos (by omega)) (nI_pos (by omega)) (by rw [hcN]; omega) (by rw [hcM]; omega) (by rw [hcM]; omega) (by decide) (by decide) (by rw [hcN]; exact hcells) (by rw [hcN, hcM]; exact hslots)
  rw [hcN, hcM] at X' step
  have ec : cA = comp := Option.some.inj ((show s.vm.findClass (FieldType.array .int).toString = some cA from (hK.2 0 _ ht).2).symm.trans fC)
  subst ec
  have eb : cB = cX := Option.some.inj ((show s.vm.findClass ("[" ++ (FieldType.array .int).toString) = some cB from (hK.2 1 _ ht1).2).symm.trans fA)
  subst eb
  generalize hF : Jvm.Free.Multi.fill (T.setVm vm₁) cB cA N M (defaultValue .int) N = F at X' step
  have hTh : (T.setVm vm₁).heap = H := hT
  obtain ⟨f1, f2, -, -⟩ := Jvm.Free.Multi.fill_facts (T.setVm vm₁) cB cA N M (defaultValue .int) N
  rw [hF, hTh] at f1 f2
  have hold : ∀ x : Nat, x < H.size → F.heap[x]? = H[x]? := fun x hx => by
    have := Jvm.Free.Multi.fill_old (T.setVm vm₁) cB cA N M (defaultValue .int) (a := x) (by rw [hTh]; exact hx) N
    rw [hF, hTh] at this
    exact this
  have hrow : ∀ j : Nat, j < N → F.heap[H.size + 1 + j]? = some (vp_cell cA (M, .inl (fun _ => 0))) := fun j hj => by
    have := Jvm.Free.Multi.fill_inner (T.setVm vm₁) cB cA N M (defaultValue .int) N j hj
    rw [hF, hTh] at this
    rw [this, vp_cell_i]
    exact congrArg some (arrV_new cA M (.int 0))
  have hout : Jvm.Free.Multi.outerC cB N H.size N = vp_cell cB (N, .inr (.inr (.inr (.inr (fun i => if i < N then some (H.size + 1 + i) else none))))) := by
    rw [vp_cell_q]
    exact vr_outer cB N H.size N
  rw [hout] at f2
  rw [Nat.add_assoc cells, Nat.add_assoc slots] at X'
  obtain ⟨t, a1, b1⟩ := kk F.heap f2 hrow f1 hold (hS.more (by omega) hold) F rfl X'
  have e : T.heap.size = H.size := by rw [hT]
  rw [e] at step
  exact ⟨t, step t a1, b1⟩
end RW3
end
section
/-! changes of a scene -/
def zClear (n : Nat) (z : Nat → Int32) : Nat → Int32 := upd (upd (upd z 0 (nI n)) 1 (nI 0)) 2 (nI 0)
def zUser (z : Nat → Int32) (r x y w : Int32) : Nat → Int32 := upd (upd (upd (upd (upd (upd z (3 + 5 * cu z) r) (3 + 5 * cu z + 1) x) (3 + 5 * cu z + 2) y) (3 + 5 * cu z + 3) w) (3 + 5 * cu z + 4) (nI (2 ^ cn z - 1))) 1 (nI (cu z + 1))
def zSpell (z : Nat → Int32) (u ch x y : Int32) : Nat → Int32 := upd (upd (upd (upd (upd z (28 + 4 * cs z) u) (28 + 4 * cs z + 1) ch) (28 + 4 * cs z + 2) x) (28 + 4 * cs z + 3) y) 2 (nI (cs z + 1))
def zSet (z : Nat → Int32) (u w : Nat) (v : Int32) : Nat → Int32 := upd z (3 + 5 * u + w) v
def lotN (x : Nat) : Nat := x * 16807 % 2147483647
def drX (x : Nat) : Nat → Nat
  | 0 => x
  | j + 1 => lotN (lotN (lotN (lotN (drX x j))))
def zDrift (z : Nat → Int32) (x : Nat) : Nat → Nat → Int32
  | 0 => z
  | j + 1 => upd (upd (upd (upd (zDrift z x j) (3 + 5 * j + 4) (nI (lotN (drX x j) % 2 ^ cn z))) (3 + 5 * j + 1) (nI (lotN (lotN (drX x j)) % 100))) (3 + 5 * j + 2) (nI (lotN (lotN (lotN (drX x j))) % 100))) (3 + 5 * j + 3) (nI (lotN (lotN (lotN (lotN (drX x j)))) % 50))
theorem zn_upd_ne {z : Nat → Int32} {k i : Nat} {x : Int32} (h : i ≠ k) : zn (upd z k x) i = zn z i := by unfold zn; rw [pk_un h]
theorem zn_upd {z : Nat → Int32} {k n : Nat} (h : n < 2 ^ 31) : zn (upd z k (nI n)) k = n := by unfold zn; rw [pk_us, nI_clamp h]
theorem zClear_n {n : Nat} {z : Nat → Int32} (h : n < 2 ^ 31) : cn (zClear n z) = n := by
  unfold cn zClear
  rw [zn_upd_ne (by decide), zn_upd_ne (by decide), zn_upd h]
theorem zClear_u {n : Nat} {z : Nat → Int32} : cu (zClear n z) = 0 := by
  unfold cu zClear
  rw [zn_upd_ne (by decide), zn_upd (by decide)]
theorem zClear_s {n : Nat} {z : Nat → Int32} : cs (zClear n z) = 0 := by
  unfold cs zClear
  rw [zn_upd (by decide)]
theorem zUser_n {z : Nat → Int32} {r x y w : Int32} : cn (zUser z r x y w) = cn z := by
  unfold zUser
  rw [cn, zn_upd_ne (by decide), zn_upd_ne (by omega), zn_upd_ne (by omega), zn_upd_ne (by omega), zn_upd_ne (by omega), zn_upd_ne (by omega)]
  rfl
theorem zUser_u {z : Nat → Int32} {r x y w : Int32} (h : cu z < 5) : cu (zUser z r x y w) = cu z + 1 := by
  rw [cu, zUser, zn_upd (by omega)]
theorem zUser_s {z : Nat → Int32} {r x y w : Int32} : cs (zUser z r x y w) = cs z := by
  unfold zUser
  rw [cs, zn_upd_ne (by decide), zn_upd_ne (by omega), zn_upd_ne (by omega), zn_upd_ne (by omega), zn_upd_ne (by omega), zn_upd_ne (by omega)]
  rfl
theorem zUser_old {z : Nat → Int32} {r x y w : Int32} {k : Nat} (h : k < 3 + 5 * cu z ∨ 3 + 5 * cu z + 4 < k) (h1 : k ≠ 1) : zUser z r x y w k = z k := by
  unfold zUser
  rw [pk_un h1, pk_un (by omega), pk_un (by omega), pk_un (by omega), pk_un (by omega), pk_un (by omega)]
theorem zUser_new {z : Nat → Int32} {r x y w : Int32} : zUser z r x y w (3 + 5 * cu z) = r ∧ zUser z r x y w (3 + 5 * cu z + 1) = x ∧ zUser z r x y w (3 + 5 * cu z + 2) = y ∧ zUser z r x y w (3 + 5 * cu z + 3) = w ∧ zUser z r x y w (3 + 5 * cu z + 4) = nI (2 ^ cn z - 1) := by
  unfold zUser
  refine ⟨?_, ?_, ?_, ?_, ?_⟩
  · rw [pk_un (by omega), pk_un (by omega), pk_un (by omega), pk_un (by omega), pk_un (by omega), pk_us]
  · rw [pk_un (by omega), pk_un (by omega), pk_un (by omega), pk_un (by omega), pk_us]
  · rw [pk_un (by omega), pk_un (by omega), pk_un (by omega), pk_us]
  · rw [pk_un (by omega), pk_un (by omega), pk_us]
  · rw [pk_un (by omega), pk_us]
theorem zSpell_n {z : Nat → Int32} {u ch x y : Int32} : cn (zSpell z u ch x y) = cn z := by
  unfold zSpell
  rw [cn, zn_upd_ne (by decide), zn_upd_ne (by omega), zn_upd_ne (by omega), zn_upd_ne (by omega), zn_upd_ne (by omega)]
  rfl
theorem zSpell_u {z : Nat → Int32} {u ch x y : Int32} : cu (zSpell z u ch x y) = cu z := by
  unfold zSpell
  rw [cu, zn_upd_ne (by decide), zn_upd_ne (by omega), zn_upd_ne (by omega), zn_upd_ne (by omega), zn_upd_ne (by omega)]
  rfl
theorem zSpell_s {z : Nat → Int32} {u ch x y : Int32} (h : cs z < 8) : cs (zSpell z u ch x y) = cs z + 1 := by
  rw [cs, zSpell, zn_upd (by omega)]
theorem zSpell_old {z : Nat → Int32} {u ch x y : Int32} {k : Nat} (h : k < 28 + 4 * cs z) (h1 : k ≠ 2) : zSpell z u ch x y k = z k := by
  unfold zSpell
  rw [pk_un h1, pk_un (by omega), pk_un (by omega), pk_un (by omega), pk_un (by omega)]
theorem zSpell_new {z : Nat → Int32} {u ch x y : Int32} : zSpell z u ch x y (28 + 4 * cs z) = u ∧ zSpell z u ch x y (28 + 4 * cs z + 1) = ch ∧ zSpell z u ch x y (28 + 4 * cs z + 2) = x ∧ zSpell z u ch x y (28 + 4 * cs z + 3) = y := by
  unfold zSpell
  refine ⟨?_, ?_, ?_, ?_⟩
  · rw [pk_un (by omega), pk_un (by omega), pk_un (by omega), pk_un (by omega), pk_us]
  · rw [pk_un (by omega), pk_un (by omega), pk_un (by omega), pk_us]
  · rw [pk_un (by omega), pk_un (by omega), pk_us]
  · rw [pk_un (by omega), pk_us]
theorem zDrift_lo {z : Nat → Int32} {x i : Nat} (h : i < 3) : ∀ j, zDrift z x j i = z i
  | 0 => rfl
  | j + 1 => by
    rw [zDrift, pk_un (by omega), pk_un (by omega), pk_un (by omega), pk_un (by omega)]
    exact zDrift_lo h j
theorem zDrift_n (z : Nat → Int32) (x j : Nat) : cn (zDrift z x j) = cn z := by unfold cn zn; rw [zDrift_lo (by decide)]
theorem zDrift_u (z : Nat → Int32) (x j : Nat) : cu (zDrift z x j) = cu z := by unfold cu zn; rw [zDrift_lo (by decide)]
theorem zDrift_s (z : Nat → Int32) (x j : Nat) : cs (zDrift z x j) = cs z := by unfold cs zn; rw [zDrift_lo (by decide)]
theorem zDrift_hi {z : Nat → Int32} {x i : Nat} : ∀ j, 3 + 5 * j ≤ i → zDrift z x j i = z i
  | 0, _ => rfl
  | j + 1, h => by
    rw [zDrift, pk_un (by omega), pk_un (by omega), pk_un (by omega), pk_un (by omega)]
    exact zDrift_hi j (by omega)
theorem lotN_lt (x : Nat) : lotN x < 2147483647 := Nat.mod_lt _ (by decide)
theorem drX_lt {x : Nat} (h : x < 2147483647) : ∀ j, drX x j < 2147483647
  | 0 => h
  | j + 1 => lotN_lt _
theorem Sc_mk {G : va_G} {t : gT} {o n k q : Nat} {z : Nat → Int32} {fU fS : Nat → Nat → Int32} {H : Heap} (en : cn z = n) (ek : cu z = k) (es : cs z = q) (h0 : at_ G o (.inr (2, [.int (nI n), .int (nI (prN n)), .int (nI k), .int (nI q), .ref (o + 1), .ref (o + 7)])) H)
    (h1 : at_ G (o + 1) (aR t 5 (rowsF 5 (o + 2))) H) (h2 : ∀ i, i < 5 → at_ G (o + 2 + i) (aI t 5 (fU i)) H) (h3 : at_ G (o + 7) (aR t 8 (rowsF 8 (o + 8))) H) (h4 : ∀ i, i < 8 → at_ G (o + 8 + i) (aI t 4 (fS i)) H)
    (h5 : ∀ i, i < k → ∀ w, w < 5 → fU i w = z (3 + 5 * i + w)) (h6 : ∀ i, i < q → ∀ w, w < 4 → fS i w = z (28 + 4 * i + w)) : Sc G t o z H := by
  subst en ek es
  exact ⟨fU, fS, h0, h1, h2, h3, h4, h5, h6⟩
/-- the shape of a scene, whatever it holds -/
def Sy (G : va_G) (t : gT) (o : Nat) (H : Heap) : Prop := ∃ (a b c d : Int32) (fU fS : Nat → Nat → Int32),
  at_ G o (.inr (2, [.int a, .int b, .int c, .int d, .ref (o + 1), .ref (o + 7)])) H ∧ at_ G (o + 1) (aR t 5 (rowsF 5 (o + 2))) H ∧ (∀ i, i < 5 → at_ G (o + 2 + i) (aI t 5 (fU i)) H) ∧ at_ G (o + 7) (aR t 8 (rowsF 8 (o + 8))) H ∧ (∀ i, i < 8 → at_ G (o + 8 + i) (aI t 4 (fS i)) H)
theorem Sc_Sy {G : va_G} {t : gT} {o : Nat} {z : Nat → Int32} {H : Heap} (h : Sc G t o z H) : Sy G t o H := by
  obtain ⟨fU, fS, h0, h1, h2, h3, h4, -, -⟩ := h
  exact ⟨_, _, _, _, fU, fS, h0, h1, h2, h3, h4⟩
theorem rows_put {G : va_G} {t : gT} {b N M c : Nat} {F : Nat → Nat → Int32} {f : Nat → Int32} {H : Heap} (hr : at_ G (b + c) (aI t M f) H) (h : ∀ i, i < N → i ≠ c → at_ G (b + i) (aI t M (F i)) H) : ∀ i, i < N → at_ G (b + i) (aI t M (va_up F c f i)) H := fun i hi => by
  by_cases e : i = c
  · rw [e, va_up_self]; exact hr
  · rw [va_up_ne _ _ e]; exact h i hi e
theorem Sc_rowU {G : va_G} {t : gT} {o : Nat} {z : Nat → Int32} {H : Heap} (h : Sc G t o z H) {i : Nat} (hi : i < cu z) (h5 : i < 5) : ∃ f, at_ G (o + 2 + i) (aI t 5 f) H ∧ ∀ w, w < 5 → f w = z (3 + 5 * i + w) := by
  obtain ⟨fU, fS, h0, h1, h2, h3, h4, h6, h7⟩ := h
  exact ⟨fU i, h2 i h5, h6 i hi⟩
theorem Sc_rowS {G : va_G} {t : gT} {o : Nat} {z : Nat → Int32} {H : Heap} (h : Sc G t o z H) {i : Nat} (hi : i < cs z) (h8 : i < 8) : ∃ f, at_ G (o + 8 + i) (aI t 4 f) H ∧ ∀ w, w < 4 → f w = z (28 + 4 * i + w) := by
  obtain ⟨fU, fS, h0, h1, h2, h3, h4, h6, h7⟩ := h
  exact ⟨fS i, h4 i h8, h7 i hi⟩
theorem cp_ext {F : Nat → Nat → Int32} {g : Nat → Nat → Int32} {i M : Nat} {fv : Nat → Int32} (h : ∀ j, j < i → ∀ w, w < M → F j w = g j w) (hv : ∀ w, w < M → fv w = g i w) : ∀ j, j < i + 1 → ∀ w, w < M → va_up F i (fun j => if j < M then fv j else F i j) j w = g j w := fun j hj w hw => by
  by_cases e : j = i
  · rw [e, va_up_self]
    show (if w < M then fv w else F i w) = _
    rw [if_pos hw]; exact hv w hw
  · rw [va_up_ne _ _ e]; exact h j (by omega) w hw
theorem us_ext {z : Nat → Int32} {r x y w : Int32} {F : Nat → Nat → Int32} (h : ∀ i, i < cu z → ∀ w, w < 5 → F i w = z (3 + 5 * i + w)) : ∀ i, i < cu z + 1 → ∀ v, v < 5 → va_up F (cu z) (upd (upd (upd (upd (upd (F (cu z)) 0 r) 1 x) 2 y) 3 w) 4 (nI (2 ^ cn z - 1))) i v = zUser z r x y w (3 + 5 * i + v) := fun i hi v hv => by
  by_cases e : i = cu z
  · subst e
    rw [va_up_self]
    obtain ⟨e0, e1, e2, e3, e4⟩ := zUser_new (z := z) (r := r) (x := x) (y := y) (w := w)
    rcases (show v = 0 ∨ v = 1 ∨ v = 2 ∨ v = 3 ∨ v = 4 by omega) with rfl | rfl | rfl | rfl | rfl
    · exact e0.symm
    · exact e1.symm
    · exact e2.symm
    · exact e3.symm
    · exact e4.symm
  · rw [va_up_ne _ _ e, zUser_old (by omega) (by omega)]
    exact h i (by omega) v hv
theorem ss_ext {z : Nat → Int32} {u ch x y : Int32} {F : Nat → Nat → Int32} (h : ∀ i, i < cs z → ∀ w, w < 4 → F i w = z (28 + 4 * i + w)) : ∀ i, i < cs z + 1 → ∀ v, v < 4 → va_up F (cs z) (upd (upd (upd (upd (F (cs z)) 0 u) 1 ch) 2 x) 3 y) i v = zSpell z u ch x y (28 + 4 * i + v) := fun i hi v hv => by
  by_cases e : i = cs z
  · subst e
    rw [va_up_self]
    obtain ⟨e0, e1, e2, e3⟩ := zSpell_new (z := z) (u := u) (ch := ch) (x := x) (y := y)
    rcases (show v = 0 ∨ v = 1 ∨ v = 2 ∨ v = 3 by omega) with rfl | rfl | rfl | rfl
    · exact e0.symm
    · exact e1.symm
    · exact e2.symm
    · exact e3.symm
  · rw [va_up_ne _ _ e, zSpell_old (by omega) (by omega)]
    exact h i (by omega) v hv
theorem dr_ext {z : Nat → Int32} {x j : Nat} {F : Nat → Nat → Int32} (h0 : ∀ i, i < cu z → ∀ w, w < 5 → F i w = zDrift z x j (3 + 5 * i + w)) (hj : j < cu z) : ∀ i, i < cu z → ∀ w, w < 5 → va_up F j (upd (upd (upd (upd (F j) 4 (nI (lotN (drX x j) % 2 ^ cn z))) 1 (nI (lotN (lotN (drX x j)) % 100))) 2 (nI (lotN (lotN (lotN (drX x j))) % 100))) 3 (nI (lotN (lotN (lotN (lotN (drX x j)))) % 50))) i w = zDrift z x (j + 1) (3 + 5 * i + w) := fun i hi w hw => by
  rw [zDrift]
  by_cases e : i = j
  · subst e
    rw [va_up_self]
    rcases (show w = 0 ∨ w = 1 ∨ w = 2 ∨ w = 3 ∨ w = 4 by omega) with rfl | rfl | rfl | rfl | rfl
    · rw [pk_un (by decide), pk_un (by decide), pk_un (by decide), pk_un (by decide), pk_un (by omega), pk_un (by omega), pk_un (by omega), pk_un (by omega)]
      exact h0 i hi 0 (by decide)
    · rw [pk_un (by decide), pk_un (by decide), pk_us, pk_un (by omega), pk_un (by omega), pk_us]
    · rw [pk_un (by decide), pk_us, pk_un (by omega), pk_us]
    · rw [pk_us, pk_us]
    · rw [pk_un (by decide), pk_un (by decide), pk_un (by decide), pk_us, pk_un (by omega), pk_un (by omega), pk_un (by omega), pk_us]
  · rw [va_up_ne _ _ e, pk_un (by omega), pk_un (by omega), pk_un (by omega), pk_un (by omega)]
    exact h0 i hi w hw
theorem lN_n0 {n : Nat} (h : 0 < n) (h2 : n < 2 ^ 63) : ¬ lN n = 0 := fun q => by
  have := (pk_lEQ h2 (show 0 < 2 ^ 63 by decide)).mp (q.trans (show (0 : Int64) = lN 0 from rfl))
  omega
end
section
/-! Scene: what changes it (printed by wip/whole/m4.py) -/
set_option maxRecDepth 20000 in
theorem iiX2_clear_2 : ∀ w ∈ wsX20, w ∈ wsX2_clear := by decide +kernel
set_option maxHeartbeats 4000000 in
set_option maxRecDepth 100000 in
/-- no users, no spells -/
theorem c_X2_clear (l : Launch) (G : va_G) (t : gT) (o n : Nat) (z : Nat → Int32) (hn : 2 ≤ n) (hn2 : n ≤ 10) (e0 : cn z = n) (e1 : cu z = 0) (e2 : cs z = 0) : Met l yX2_clear wsX2_clear ({ frames := 2, cells := 0, slots := 0, locals := 42 } : Room) (pc_ [.ref o, .int (nI n)] (fun U H => KK G t U ∧ Sy G t o H)) (qv_ (fun H => Sc G t o z H) (iv o (o + 16))) 0 0 (iv o (o + 16)) := by
  refine Met.ofW (cc := cX2_clear) (maxL := 2) (ret := none) (by decide) rfl ?_
  intro p e s m args below meth c s₁ B hml hv
  obtain ⟨rfl, hB⟩ := hv
  have hx := B.exec
  have hb := B.bytes
  have hr := B.returns
  have hts := atoms_spec (ws := wsX2_clear) B.pre
  have hown : s.vm.findClass RX2 = some m.cls := findClass_of_methodNamed B.named
  have hlocks := B.notSynchronized
  have hK := hB.1
  obtain ⟨a0, a1, a2, a3, fU, fS, h0, h1, h2, h4, h5⟩ := hB.2
  have hS : va_S (iv o (o + 16)) s.heap s.heap [] := va_S.rf
  have hl := lv_entry ([.ref o, .int (nI n)]) (n := 2) (Nat.le_of_ble_eq_true rfl)
  rw [lg_entry_eq]
  generalize (lg_sl ([.ref o, .int (nI n)]) ++ List.replicate (2 - (lg_sl ([.ref o, .int (nI n)])).length) Slot.unset).toArray = ls at hl ⊢
  have hl : lv_has ls 2 [(0, .ref o), (1, .int (nI n))] := hl
  refine lv_aload_n hx hb dX2_clear_0 rfl (lv_at hl 0 rfl) ?_
  refine lv_iload_n hx hb dX2_clear_1 rfl (lv_at hl 1 rfl) ?_
  refine r_put (ty := .int) (ci := 2) (C := RX2) (T := TX2) (N := 6) (fs' := [.int (nI n), .int a1, .int a2, .int a3, .ref (o + 1), .ref (o + 7)]) hx hb hts iiX2_clear_2 tyX2 tyX2_ok nmX2 hown hK h0 ⟨by omega, by omega⟩ hS rfl 0 (by decide) (hts (.fieldLink RX2 23 "HopMeet$Scene" "channelCount" "I") (List.mem_of_getElem? (i := 1) rfl)) rfl (by decide +kernel) rfl rfl (Nat.le_of_ble_eq_true rfl) rfl dX2_clear_2 (fun H locs h0 hz9 hq hS => ?_)
  have h1 := at_kept h1 (hq _ (by omega))
  have h4 := at_kept h4 (hq _ (by omega))
  have h2 := fun i hi => at_kept (h2 i hi) (hq _ (by omega))
  have h5 := fun i hi => at_kept (h5 i hi) (hq _ (by omega))
  refine lv_aload_n hx hb dX2_clear_5 rfl (lv_at hl 0 rfl) ?_
  refine lv_iload_n hx hb dX2_clear_6 rfl (lv_at hl 1 rfl) ?_
  refine r_cS (av := [.int (nI n)]) (c_X2_primeAbove l G t n hn hn2) ⟨hx, hb, hml, hown, hts⟩ (va_cwS 1 hts gX2_clear_X2_primeAbove rfl rfl rfl (by decide +kernel) ⟨Nat.le_of_ble_eq_true rfl, Nat.le_of_ble_eq_true rfl⟩) mv_T trivial rfl hl (Nat.le_of_ble_eq_true rfl) ⟨Nat.le_of_ble_eq_true rfl, Nat.le_of_ble_eq_true rfl⟩ rfl dX2_clear_7 (fun r1 hr1 => ?_)
  subst hr1
  refine r_put (ty := .int) (ci := 2) (C := RX2) (T := TX2) (N := 6) (fs' := [.int (nI n), .int (nI (prN n)), .int a2, .int a3, .ref (o + 1), .ref (o + 7)]) hx hb hts iiX2_clear_2 tyX2 tyX2_ok nmX2 hown hK h0 ⟨by omega, by omega⟩ hS rfl 1 (by decide) (hts (.fieldLink RX2 31 "HopMeet$Scene" "prime" "I") (List.mem_of_getElem? (i := 2) rfl)) rfl (by decide +kernel) rfl rfl (Nat.le_of_ble_eq_true rfl) rfl dX2_clear_10 (fun H locs h0 hz9 hq hS => ?_)
  have h1 := at_kept h1 (hq _ (by omega))
  have h4 := at_kept h4 (hq _ (by omega))
  have h2 := fun i hi => at_kept (h2 i hi) (hq _ (by omega))
  have h5 := fun i hi => at_kept (h5 i hi) (hq _ (by omega))
  refine lv_aload_n hx hb dX2_clear_13 rfl (lv_at hl 0 rfl) ?_
  refine lv_iconst (v := nI 0) hx hb dX2_clear_14 (by decide) ?_
  refine r_put (ty := .int) (ci := 2) (C := RX2) (T := TX2) (N := 6) (fs' := [.int (nI n), .int (nI (prN n)), .int (nI 0), .int a3, .ref (o + 1), .ref (o + 7)]) hx hb hts iiX2_clear_2 tyX2 tyX2_ok nmX2 hown hK h0 ⟨by omega, by omega⟩ hS rfl 2 (by decide) (hts (.fieldLink RX2 34 "HopMeet$Scene" "userCount" "I") (List.mem_of_getElem? (i := 3) rfl)) rfl (by decide +kernel) rfl rfl (Nat.le_of_ble_eq_true rfl) rfl dX2_clear_15 (fun H locs h0 hz9 hq hS => ?_)
  have h1 := at_kept h1 (hq _ (by omega))
  have h4 := at_kept h4 (hq _ (by omega))
  have h2 := fun i hi => at_kept (h2 i hi) (hq _ (by omega))
  have h5 := fun i hi => at_kept (h5 i hi) (hq _ (by omega))
  refine lv_aload_n hx hb dX2_clear_18 rfl (lv_at hl 0 rfl) ?_
  refine lv_iconst (v := nI 0) hx hb dX2_clear_19 (by decide) ?_
  refine r_put (ty := .int) (ci := 2) (C := RX2) (T := TX2) (N := 6) (fs' := [.int (nI n), .int (nI (prN n)), .int (nI 0), .int (nI 0), .ref (o + 1), .ref (o + 7)]) hx hb hts iiX2_clear_2 tyX2 tyX2_ok nmX2 hown hK h0 ⟨by omega, by omega⟩ hS rfl 3 (by decide) (hts (.fieldLink RX2 37 "HopMeet$Scene" "spellCount" "I") (List.mem_of_getElem? (i := 4) rfl)) rfl (by decide +kernel) rfl rfl (Nat.le_of_ble_eq_true rfl) rfl dX2_clear_20 (fun H locs h0 hz9 hq hS => ?_)
  have h1 := at_kept h1 (hq _ (by omega))
  have h4 := at_kept h4 (hq _ (by omega))
  have h2 := fun i hi => at_kept (h2 i hi) (hq _ (by omega))
  have h5 := fun i hi => at_kept (h5 i hi) (hq _ (by omega))
  exact r_retV hx hb hr hlocks hS (Sc_mk e0 e1 e2 h0 h1 h2 h4 h5 (fun i hi => absurd hi (Nat.not_lt_zero _)) (fun i hi => absurd hi (Nat.not_lt_zero _))) dX2_clear_23

set_option maxRecDepth 20000 in
theorem iiX2_become_2 : ∀ w ∈ wsX20, w ∈ wsX2_become := by decide +kernel
set_option maxHeartbeats 4000000 in
set_option maxRecDepth 100000 in
/-- a scene becomes another -/
theorem c_X2_become (l : Launch) (G : va_G) (t : gT) (o o2 : Nat) (z : Nat → Int32) (hz : WF z) (hsep : o + 16 ≤ o2 ∨ o2 + 16 ≤ o) : Met l yX2_become wsX2_become ({ frames := 1, cells := 0, slots := 0, locals := 30 } : Room) (pc_ [.ref o, .ref o2] (fun U H => KK G t U ∧ (Sy G t o H ∧ Sc G t o2 z H))) (qv_ (fun H => Sc G t o z H) (iv o (o + 16))) 0 0 (iv o (o + 16)) := by
  refine Met.ofW (cc := cX2_become) (maxL := 3) (ret := none) (by decide) rfl ?_
  intro p e s m args below meth c s₁ B hml hv
  obtain ⟨rfl, hB⟩ := hv
  have hx := B.exec
  have hb := B.bytes
  have hr := B.returns
  have hts := atoms_spec (ws := wsX2_become) B.pre
  have hown : s.vm.findClass RX2 = some m.cls := findClass_of_methodNamed B.named
  have hlocks := B.notSynchronized
  have hK := hB.1
  have hSc := hB.2.2
  obtain ⟨a0, a1, a2, a3, fU, fS, h0, h1, h2, h4, h5⟩ := hB.2.1
  have g0 := Sc_obj hSc
  have g1 := (Sc_rows hSc).1
  have g4 := (Sc_rows hSc).2
  have hu5 := hz.u5
  have hs8 := hz.s8
  have hS : va_S (iv o (o + 16)) s.heap s.heap [] := va_S.rf
  have hl := lv_entry ([.ref o, .ref o2]) (n := 3) (Nat.le_of_ble_eq_true rfl)
  rw [lg_entry_eq]
  generalize (lg_sl ([.ref o, .ref o2]) ++ List.replicate (3 - (lg_sl ([.ref o, .ref o2])).length) Slot.unset).toArray = ls at hl ⊢
  have hl : lv_has ls 3 [(0, .ref o), (1, .ref o2)] := hl
  refine lv_aload_n hx hb dX2_become_0 rfl (lv_at hl 0 rfl) ?_
  refine lv_aload_n hx hb dX2_become_1 rfl (lv_at hl 1 rfl) ?_
  refine r_get (C := RX2) (T := TX2) (N := 6) hx hb hts iiX2_become_2 hown hK g0 rfl 0 (by decide) (hts (.fieldLink RX2 23 "HopMeet$Scene" "channelCount" "I") (List.mem_of_getElem? (i := 1) rfl)) rfl dX2_become_2 ?_
  refine r_put (ty := .int) (ci := 2) (C := RX2) (T := TX2) (N := 6) (fs' := [.int (nI (cn z)), .int a1, .int a2, .int a3, .ref (o + 1), .ref (o + 7)]) hx hb hts iiX2_become_2 tyX2 tyX2_ok nmX2 hown hK h0 ⟨by omega, by omega⟩ hS rfl 0 (by decide) (hts (.fieldLink RX2 23 "HopMeet$Scene" "channelCount" "I") (List.mem_of_getElem? (i := 1) rfl)) rfl (by decide +kernel) rfl rfl (Nat.le_of_ble_eq_true rfl) rfl dX2_become_5 (fun H locs h0 hz9 hq hS => ?_)
  have h1 := at_kept h1 (hq _ (by omega))
  have h4 := at_kept h4 (hq _ (by omega))
  have g0 := at_kept g0 (hq _ (by omega))
  have g1 := at_kept g1 (hq _ (by omega))
  have g4 := at_kept g4 (hq _ (by omega))
  have h2 := fun i hi => at_kept (h2 i hi) (hq _ (by omega))
  have h5 := fun i hi => at_kept (h5 i hi) (hq _ (by omega))
  have hSc := Sc_kept hSc (fun q h8 h9 => hq q (by omega))
  refine lv_aload_n hx hb dX2_become_8 rfl (lv_at hl 0 rfl) ?_
  refine lv_aload_n hx hb dX2_become_9 rfl (lv_at hl 1 rfl) ?_
  refine r_get (C := RX2) (T := TX2) (N := 6) hx hb hts iiX2_become_2 hown hK g0 rfl 1 (by decide) (hts (.fieldLink RX2 31 "HopMeet$Scene" "prime" "I") (List.mem_of_getElem? (i := 2) rfl)) rfl dX2_become_10 ?_
  refine r_put (ty := .int) (ci := 2) (C := RX2) (T := TX2) (N := 6) (fs' := [.int (nI (cn z)), .int (nI (prN (cn z))), .int a2, .int a3, .ref (o + 1), .ref (o + 7)]) hx hb hts iiX2_become_2 tyX2 tyX2_ok nmX2 hown hK h0 ⟨by omega, by omega⟩ hS rfl 1 (by decide) (hts (.fieldLink RX2 31 "HopMeet$Scene" "prime" "I") (List.mem_of_getElem? (i := 2) rfl)) rfl (by decide +kernel) rfl rfl (Nat.le_of_ble_eq_true rfl) rfl dX2_become_13 (fun H locs h0 hz9 hq hS => ?_)
  have h1 := at_kept h1 (hq _ (by omega))
  have h4 := at_kept h4 (hq _ (by omega))
  have g0 := at_kept g0 (hq _ (by omega))
  have g1 := at_kept g1 (hq _ (by omega))
  have g4 := at_kept g4 (hq _ (by omega))
  have h2 := fun i hi => at_kept (h2 i hi) (hq _ (by omega))
  have h5 := fun i hi => at_kept (h5 i hi) (hq _ (by omega))
  have hSc := Sc_kept hSc (fun q h8 h9 => hq q (by omega))
  refine lv_aload_n hx hb dX2_become_16 rfl (lv_at hl 0 rfl) ?_
  refine lv_aload_n hx hb dX2_become_17 rfl (lv_at hl 1 rfl) ?_
  refine r_get (C := RX2) (T := TX2) (N := 6) hx hb hts iiX2_become_2 hown hK g0 rfl 2 (by decide) (hts (.fieldLink RX2 34 "HopMeet$Scene" "userCount" "I") (List.mem_of_getElem? (i := 3) rfl)) rfl dX2_become_18 ?_
  refine r_put (ty := .int) (ci := 2) (C := RX2) (T := TX2) (N := 6) (fs' := [.int (nI (cn z)), .int (nI (prN (cn z))), .int (nI (cu z)), .int a3, .ref (o + 1), .ref (o + 7)]) hx hb hts iiX2_become_2 tyX2 tyX2_ok nmX2 hown hK h0 ⟨by omega, by omega⟩ hS rfl 2 (by decide) (hts (.fieldLink RX2 34 "HopMeet$Scene" "userCount" "I") (List.mem_of_getElem? (i := 3) rfl)) rfl (by decide +kernel) rfl rfl (Nat.le_of_ble_eq_true rfl) rfl dX2_become_21 (fun H locs h0 hz9 hq hS => ?_)
  have h1 := at_kept h1 (hq _ (by omega))
  have h4 := at_kept h4 (hq _ (by omega))
  have g0 := at_kept g0 (hq _ (by omega))
  have g1 := at_kept g1 (hq _ (by omega))
  have g4 := at_kept g4 (hq _ (by omega))
  have h2 := fun i hi => at_kept (h2 i hi) (hq _ (by omega))
  have h5 := fun i hi => at_kept (h5 i hi) (hq _ (by omega))
  have hSc := Sc_kept hSc (fun q h8 h9 => hq q (by omega))
  refine lv_aload_n hx hb dX2_become_24 rfl (lv_at hl 0 rfl) ?_
  refine lv_aload_n hx hb dX2_become_25 rfl (lv_at hl 1 rfl) ?_
  refine r_get (C := RX2) (T := TX2) (N := 6) hx hb hts iiX2_become_2 hown hK g0 rfl 3 (by decide) (hts (.fieldLink RX2 37 "HopMeet$Scene" "spellCount" "I") (List.mem_of_getElem? (i := 4) rfl)) rfl dX2_become_26 ?_
  refine r_put (ty := .int) (ci := 2) (C := RX2) (T := TX2) (N := 6) (fs' := [.int (nI (cn z)), .int (nI (prN (cn z))), .int (nI (cu z)), .int (nI (cs z)), .ref (o + 1), .ref (o + 7)]) hx hb hts iiX2_become_2 tyX2 tyX2_ok nmX2 hown hK h0 ⟨by omega, by omega⟩ hS rfl 3 (by decide) (hts (.fieldLink RX2 37 "HopMeet$Scene" "spellCount" "I") (List.mem_of_getElem? (i := 4) rfl)) rfl (by decide +kernel) rfl rfl (Nat.le_of_ble_eq_true rfl) rfl dX2_become_29 (fun H locs h0 hz9 hq hS => ?_)
  have h1 := at_kept h1 (hq _ (by omega))
  have h4 := at_kept h4 (hq _ (by omega))
  have g0 := at_kept g0 (hq _ (by omega))
  have g1 := at_kept g1 (hq _ (by omega))
  have g4 := at_kept g4 (hq _ (by omega))
  have h2 := fun i hi => at_kept (h2 i hi) (hq _ (by omega))
  have h5 := fun i hi => at_kept (h5 i hi) (hq _ (by omega))
  have hSc := Sc_kept hSc (fun q h8 h9 => hq q (by omega))
  refine lv_iconst (v := nI 0) hx hb dX2_become_32 (by decide) ?_
  refine lv_istore_n (lv' := [(2, .int (nI 0)), (0, .ref o), (1, .ref o2)]) hx hb dX2_become_33 rfl hl (by decide) rfl (fun ls hl => ?_)
  have loop34 : ∀ (fu : Nat) (i : Nat) (F : Nat → Nat → Int32) (hi : i ≤ cu z) (hF : ∀ j, j < i → ∀ w, w < 5 → F j w = z (3 + 5 * j + w)) (hfu : cu z - i < fu) (H : Heap) (locs : List Loc) (h0 : at_ G o (.inr (2, [.int (nI (cn z)), .int (nI (prN (cn z))), .int (nI (cu z)), .int (nI (cs z)), .ref (o + 1), .ref (o + 7)])) H) (h1 : at_ G (o + 1) (aR t 5 (rowsF 5 (o + 2))) H) (h4 : at_ G (o + 7) (aR t 8 (rowsF 8 (o + 8))) H) (g0 : at_ G o2 (.inr (2, [.int (nI (cn z)), .int (nI (prN (cn z))), .int (nI (cu z)), .int (nI (cs z)), .ref (o2 + 1), .ref (o2 + 7)])) H) (g1 : at_ G (o2 + 1) (aR t 5 (rowsF 5 (o2 + 2))) H) (g4 : at_ G (o2 + 7) (aR t 8 (rowsF 8 (o2 + 8))) H) (h2 : ∀ i, i < 5 → at_ G (o + 2 + i) (aI t 5 (F i)) H) (h5 : ∀ i, i < 8 → at_ G (o + 8 + i) (aI t 4 (fS i)) H) (hSc : Sc G t o2 z H) (hS : va_S (iv o (o + 16)) s.heap H locs) (ls : Array Slot) (hl : lv_has ls 3 [(0, .ref o), (1, .ref o2), (2, .int (nI i))]), W p l e (headSpec wsX2_become ({ frames := 1, cells := 0, slots := 0, locals := 30 } : Room)).room s m ([.ref o, .ref o2] : List Value).toArray below meth c H locs 0 0 (MQ below (qv_ (fun H => Sc G t o z H) (iv o (o + 16))) ([.ref o, .ref o2] : List Value).toArray s 0 0 (iv o (o + 16))) (F0 m 34 ls []) := by
    intro fu
    induction fu with
    | zero => intro i F hi hF hfu; exact absurd hfu (Nat.not_lt_zero _)
    | succ fu34 ih34 =>
      intro i F hi hF hfu H locs h0 h1 h4 g0 g1 g4 h2 h5 hSc hS ls hl
      refine lv_iload_n hx hb dX2_become_34 rfl (lv_at hl 2 rfl) ?_
      refine lv_aload_n hx hb dX2_become_35 rfl (lv_at hl 0 rfl) ?_
      refine r_get (C := RX2) (T := TX2) (N := 6) hx hb hts iiX2_become_2 hown hK h0 rfl 2 (by decide) (hts (.fieldLink RX2 34 "HopMeet$Scene" "userCount" "I") (List.mem_of_getElem? (i := 3) rfl)) rfl dX2_become_36 ?_
      refine r_geN hx hb (by omega) (by omega) dX2_become_39 (tgt := 66) (by decide) (fun c1 => ?_) (fun c1 => ?_)
      · have hF5 : ∀ j, j < cu z → ∀ w, w < 5 → F j w = z (3 + 5 * j + w) := fun j hj => hF j (by omega)
        refine lv_iconst (v := nI 0) hx hb dX2_become_66 (by decide) ?_
        refine lv_istore_n (lv' := [(2, .int (nI 0)), (0, .ref o), (1, .ref o2)]) hx hb dX2_become_67 rfl hl (by decide) rfl (fun ls hl => ?_)
        have loop68 : ∀ (fu : Nat) (i : Nat) (E : Nat → Nat → Int32) (hi : i ≤ cs z) (hE : ∀ j, j < i → ∀ w, w < 4 → E j w = z (28 + 4 * j + w)) (hfu : cs z - i < fu) (H : Heap) (locs : List Loc) (h0 : at_ G o (.inr (2, [.int (nI (cn z)), .int (nI (prN (cn z))), .int (nI (cu z)), .int (nI (cs z)), .ref (o + 1), .ref (o + 7)])) H) (h1 : at_ G (o + 1) (aR t 5 (rowsF 5 (o + 2))) H) (h4 : at_ G (o + 7) (aR t 8 (rowsF 8 (o + 8))) H) (g0 : at_ G o2 (.inr (2, [.int (nI (cn z)), .int (nI (prN (cn z))), .int (nI (cu z)), .int (nI (cs z)), .ref (o2 + 1), .ref (o2 + 7)])) H) (g1 : at_ G (o2 + 1) (aR t 5 (rowsF 5 (o2 + 2))) H) (g4 : at_ G (o2 + 7) (aR t 8 (rowsF 8 (o2 + 8))) H) (h2 : ∀ i, i < 5 → at_ G (o + 2 + i) (aI t 5 (F i)) H) (h5 : ∀ i, i < 8 → at_ G (o + 8 + i) (aI t 4 (E i)) H) (hSc : Sc G t o2 z H) (hS : va_S (iv o (o + 16)) s.heap H locs) (ls : Array Slot) (hl : lv_has ls 3 [(0, .ref o), (1, .ref o2), (2, .int (nI i))]), W p l e (headSpec wsX2_become ({ frames := 1, cells := 0, slots := 0, locals := 30 } : Room)).room s m ([.ref o, .ref o2] : List Value).toArray below meth c H locs 0 0 (MQ below (qv_ (fun H => Sc G t o z H) (iv o (o + 16))) ([.ref o, .ref o2] : List Value).toArray s 0 0 (iv o (o + 16))) (F0 m 68 ls []) := by
          intro fu
          induction fu with
          | zero => intro i E hi hE hfu; exact absurd hfu (Nat.not_lt_zero _)
          | succ fu68 ih68 =>
            intro i E hi hE hfu H locs h0 h1 h4 g0 g1 g4 h2 h5 hSc hS ls hl
            refine lv_iload_n hx hb dX2_become_68 rfl (lv_at hl 2 rfl) ?_
            refine lv_aload_n hx hb dX2_become_69 rfl (lv_at hl 0 rfl) ?_
            refine r_get (C := RX2) (T := TX2) (N := 6) hx hb hts iiX2_become_2 hown hK h0 rfl 3 (by decide) (hts (.fieldLink RX2 37 "HopMeet$Scene" "spellCount" "I") (List.mem_of_getElem? (i := 4) rfl)) rfl dX2_become_70 ?_
            refine r_geN hx hb (by omega) (by omega) dX2_become_73 (tgt := 100) (by decide) (fun c1 => ?_) (fun c1 => ?_)
            · exact r_retV hx hb hr hlocks hS (Sc_mk rfl rfl rfl h0 h1 h2 h4 h5 hF5 (fun j hj => hE j (by omega))) dX2_become_100
            · obtain ⟨fv, hv, hv2⟩ := Sc_rowS hSc c1 (by omega)
              refine lv_aload_n hx hb dX2_become_76 rfl (lv_at hl 1 rfl) ?_
              refine r_get (C := RX2) (T := TX2) (N := 6) hx hb hts iiX2_become_2 hown hK g0 rfl 5 (by decide) (hts (.fieldLink RX2 16 "HopMeet$Scene" "spells" "[[I") (List.mem_of_getElem? (i := 10) rfl)) rfl dX2_become_77 ?_
              refine lv_iload_n hx hb dX2_become_80 rfl (lv_at hl 2 rfl) ?_
              refine r_rald hx hb hK g4 1 rfl rfl i (by omega) (by decide) (b := o2 + 8 + i) (rowsF_at (by omega)) dX2_become_81 ?_
              refine lv_iconst (v := nI 0) hx hb dX2_become_82 (by decide) ?_
              refine lv_aload_n hx hb dX2_become_83 rfl (lv_at hl 0 rfl) ?_
              refine r_get (C := RX2) (T := TX2) (N := 6) hx hb hts iiX2_become_2 hown hK h0 rfl 5 (by decide) (hts (.fieldLink RX2 16 "HopMeet$Scene" "spells" "[[I") (List.mem_of_getElem? (i := 10) rfl)) rfl dX2_become_84 ?_
              refine lv_iload_n hx hb dX2_become_87 rfl (lv_at hl 2 rfl) ?_
              refine r_rald hx hb hK h4 1 rfl rfl i (by omega) (by decide) (b := o + 8 + i) (rowsF_at (by omega)) dX2_become_88 ?_
              refine lv_iconst (v := nI 0) hx hb dX2_become_89 (by decide) ?_
              refine lv_iconst (v := nI 4) hx hb dX2_become_90 (by decide) ?_
              refine r_copyi hx hb (by rw [hml]; exact hl.1.symm) hown (hts (.methodLink RX2 40 arraycopyName) (List.mem_of_getElem? (i := 6) rfl)) (hts (.native arraycopyName) (List.mem_of_getElem? (i := 7) rfl)) (hts (.static arraycopyName) (List.mem_of_getElem? (i := 8) rfl)) (hts (.initialized "java/lang/System") (List.mem_of_getElem? (i := 9) rfl)) hK hv (h5 i (by omega)) ⟨by omega, by omega⟩ hS rfl 4 (by decide) (by decide) (by decide) (Nat.le_of_ble_eq_true rfl) (by decide +kernel) dX2_become_91 (fun H locs hrw hz9 hq hS => ?_)
              have h5 := rows_put hrw (fun j hj hne => at_kept (h5 j hj) (hq _ (by omega)))
              have h0 := at_kept h0 (hq _ (by omega))
              have h1 := at_kept h1 (hq _ (by omega))
              have h4 := at_kept h4 (hq _ (by omega))
              have g0 := at_kept g0 (hq _ (by omega))
              have g1 := at_kept g1 (hq _ (by omega))
              have g4 := at_kept g4 (hq _ (by omega))
              have h2 := fun i hi => at_kept (h2 i hi) (hq _ (by omega))
              have hSc := Sc_kept hSc (fun q h8 h9 => hq q (by omega))
              refine lv_iinc (v := nI (i + 1)) (lv' := [(2, .int (nI (i + 1))), (0, .ref o), (1, .ref o2)]) hx hb dX2_become_94 hl (k := 2) rfl (nI_1 _) (by decide) rfl (fun ls hl => ?_)
              refine lv_goto (tgt := 68) hx hb dX2_become_97 (by decide) ?_
              exact ih68 (i + 1) (va_up E i (fun j => if j < 4 then fv j else E i j)) (by omega) (cp_ext hE hv2) (by omega) _ _ h0 h1 h4 g0 g1 g4 h2 h5 hSc hS ls (lv_sub hl [1, 2, 0] rfl)
        exact loop68 _ 0 fS (Nat.zero_le _) (fun j h => absurd h (Nat.not_lt_zero _)) (Nat.lt_succ_self _) _ _ h0 h1 h4 g0 g1 g4 h2 h5 hSc hS ls (lv_sub hl [1, 2, 0] rfl)
      · obtain ⟨fv, hv, hv2⟩ := Sc_rowU hSc c1 (by omega)
        refine lv_aload_n hx hb dX2_become_42 rfl (lv_at hl 1 rfl) ?_
        refine r_get (C := RX2) (T := TX2) (N := 6) hx hb hts iiX2_become_2 hown hK g0 rfl 4 (by decide) (hts (.fieldLink RX2 11 "HopMeet$Scene" "users" "[[I") (List.mem_of_getElem? (i := 5) rfl)) rfl dX2_become_43 ?_
        refine lv_iload_n hx hb dX2_become_46 rfl (lv_at hl 2 rfl) ?_
        refine r_rald hx hb hK g1 1 rfl rfl i (by omega) (by decide) (b := o2 + 2 + i) (rowsF_at (by omega)) dX2_become_47 ?_
        refine lv_iconst (v := nI 0) hx hb dX2_become_48 (by decide) ?_
        refine lv_aload_n hx hb dX2_become_49 rfl (lv_at hl 0 rfl) ?_
        refine r_get (C := RX2) (T := TX2) (N := 6) hx hb hts iiX2_become_2 hown hK h0 rfl 4 (by decide) (hts (.fieldLink RX2 11 "HopMeet$Scene" "users" "[[I") (List.mem_of_getElem? (i := 5) rfl)) rfl dX2_become_50 ?_
        refine lv_iload_n hx hb dX2_become_53 rfl (lv_at hl 2 rfl) ?_
        refine r_rald hx hb hK h1 1 rfl rfl i (by omega) (by decide) (b := o + 2 + i) (rowsF_at (by omega)) dX2_become_54 ?_
        refine lv_iconst (v := nI 0) hx hb dX2_become_55 (by decide) ?_
        refine lv_iconst (v := nI 5) hx hb dX2_become_56 (by decide) ?_
        refine r_copyi hx hb (by rw [hml]; exact hl.1.symm) hown (hts (.methodLink RX2 40 arraycopyName) (List.mem_of_getElem? (i := 6) rfl)) (hts (.native arraycopyName) (List.mem_of_getElem? (i := 7) rfl)) (hts (.static arraycopyName) (List.mem_of_getElem? (i := 8) rfl)) (hts (.initialized "java/lang/System") (List.mem_of_getElem? (i := 9) rfl)) hK hv (h2 i (by omega)) ⟨by omega, by omega⟩ hS rfl 5 (by decide) (by decide) (by decide) (Nat.le_of_ble_eq_true rfl) (by decide +kernel) dX2_become_57 (fun H locs hrw hz9 hq hS => ?_)
        have h2 := rows_put hrw (fun j hj hne => at_kept (h2 j hj) (hq _ (by omega)))
        have h0 := at_kept h0 (hq _ (by omega))
        have h1 := at_kept h1 (hq _ (by omega))
        have h4 := at_kept h4 (hq _ (by omega))
        have g0 := at_kept g0 (hq _ (by omega))
        have g1 := at_kept g1 (hq _ (by omega))
        have g4 := at_kept g4 (hq _ (by omega))
        have h5 := fun i hi => at_kept (h5 i hi) (hq _ (by omega))
        have hSc := Sc_kept hSc (fun q h8 h9 => hq q (by omega))
        refine lv_iinc (v := nI (i + 1)) (lv' := [(2, .int (nI (i + 1))), (0, .ref o), (1, .ref o2)]) hx hb dX2_become_60 hl (k := 2) rfl (nI_1 _) (by decide) rfl (fun ls hl => ?_)
        refine lv_goto (tgt := 34) hx hb dX2_become_63 (by decide) ?_
        exact ih34 (i + 1) (va_up F i (fun j => if j < 5 then fv j else F i j)) (by omega) (cp_ext hF hv2) (by omega) _ _ h0 h1 h4 g0 g1 g4 h2 h5 hSc hS ls (lv_sub hl [1, 2, 0] rfl)
  exact loop34 _ 0 fU (Nat.zero_le _) (fun j h => absurd h (Nat.not_lt_zero _)) (Nat.lt_succ_self _) _ _ h0 h1 h4 g0 g1 g4 h2 h5 hSc hS ls (lv_sub hl [1, 2, 0] rfl)

set_option maxRecDepth 20000 in
theorem iiX2_addUser_2 : ∀ w ∈ wsX20, w ∈ wsX2_addUser := by decide +kernel
set_option maxHeartbeats 4000000 in
set_option maxRecDepth 100000 in
/-- a user more -/
theorem c_X2_addUser (l : Launch) (G : va_G) (t : gT) (o : Nat) (z : Nat → Int32) (hz : WF z) (hlt : cu z < 5) (r x y w : Int32) : Met l yX2_addUser wsX2_addUser ({ frames := 1, cells := 0, slots := 0, locals := 20 } : Room) (pc_ [.ref o, .int r, .int x, .int y, .int w] (fun U H => KK G t U ∧ Sc G t o z H)) (qv_ (fun H => Sc G t o (zUser z r x y w) H) (iv o (o + 16))) 0 0 (iv o (o + 16)) := by
  refine Met.ofW (cc := cX2_addUser) (maxL := 6) (ret := none) (by decide) rfl ?_
  intro p e s m args below meth c s₁ B hml hv
  obtain ⟨rfl, hB⟩ := hv
  have hx := B.exec
  have hb := B.bytes
  have hr := B.returns
  have hts := atoms_spec (ws := wsX2_addUser) B.pre
  have hown : s.vm.findClass RX2 = some m.cls := findClass_of_methodNamed B.named
  have hlocks := B.notSynchronized
  have hK := hB.1
  obtain ⟨fU, fS, h0, h1, h2, h4, h5, h6, h7⟩ := hB.2
  have hn := hz.n
  have hu5 := hz.u5
  have hs8 := hz.s8
  have hrw := h2 (cu z) hlt
  have h2 : ∀ i, i < 5 → i ≠ cu z → at_ G (o + 2 + i) (aI t 5 (fU i)) s.heap := fun i hi _ => h2 i hi
  have hS : va_S (iv o (o + 16)) s.heap s.heap [] := va_S.rf
  have hl := lv_entry ([.ref o, .int r, .int x, .int y, .int w]) (n := 6) (Nat.le_of_ble_eq_true rfl)
  rw [lg_entry_eq]
  generalize (lg_sl ([.ref o, .int r, .int x, .int y, .int w]) ++ List.replicate (6 - (lg_sl ([.ref o, .int r, .int x, .int y, .int w])).length) Slot.unset).toArray = ls at hl ⊢
  have hl : lv_has ls 6 [(0, .ref o), (1, .int r), (2, .int x), (3, .int y), (4, .int w)] := hl
  refine lv_aload_n hx hb dX2_addUser_0 rfl (lv_at hl 0 rfl) ?_
  refine r_get (C := RX2) (T := TX2) (N := 6) hx hb hts iiX2_addUser_2 hown hK h0 rfl 4 (by decide) (hts (.fieldLink RX2 11 "HopMeet$Scene" "users" "[[I") (List.mem_of_getElem? (i := 1) rfl)) rfl dX2_addUser_1 ?_
  refine lv_aload_n hx hb dX2_addUser_4 rfl (lv_at hl 0 rfl) ?_
  refine r_get (C := RX2) (T := TX2) (N := 6) hx hb hts iiX2_addUser_2 hown hK h0 rfl 2 (by decide) (hts (.fieldLink RX2 34 "HopMeet$Scene" "userCount" "I") (List.mem_of_getElem? (i := 2) rfl)) rfl dX2_addUser_5 ?_
  refine r_rald hx hb hK h1 1 rfl rfl (cu z) (by omega) (by decide) (b := o + 2 + (cu z)) (rowsF_at (by omega)) dX2_addUser_8 ?_
  refine lv_astore (lv' := [(5, .ref (o + 2 + (cu z))), (0, .ref o), (1, .int r), (2, .int x), (3, .int y), (4, .int w)]) hx hb dX2_addUser_9 hl (by decide) rfl (fun ls hl => ?_)
  refine lv_aload hx hb dX2_addUser_11 (lv_at hl 0 rfl) ?_
  refine lv_iconst (v := nI 0) hx hb dX2_addUser_13 (by decide) ?_
  refine lv_iload_n hx hb dX2_addUser_14 rfl (lv_at hl 2 rfl) ?_
  refine r_iast hx hb hK hrw ⟨by omega, by omega⟩ hS rfl 0 (by omega) (by decide) dX2_addUser_15 (fun H locs hrw hz9 hq hS => ?_)
  have h0 := at_kept h0 (hq _ (by omega))
  have h1 := at_kept h1 (hq _ (by omega))
  have h4 := at_kept h4 (hq _ (by omega))
  have h2 := fun i hi hne => at_kept (h2 i hi hne) (hq _ (by omega))
  have h5 := fun i hi => at_kept (h5 i hi) (hq _ (by omega))
  refine lv_aload hx hb dX2_addUser_16 (lv_at hl 0 rfl) ?_
  refine lv_iconst (v := nI 1) hx hb dX2_addUser_18 (by decide) ?_
  refine lv_iload_n hx hb dX2_addUser_19 rfl (lv_at hl 3 rfl) ?_
  refine r_iast hx hb hK hrw ⟨by omega, by omega⟩ hS rfl 1 (by omega) (by decide) dX2_addUser_20 (fun H locs hrw hz9 hq hS => ?_)
  have h0 := at_kept h0 (hq _ (by omega))
  have h1 := at_kept h1 (hq _ (by omega))
  have h4 := at_kept h4 (hq _ (by omega))
  have h2 := fun i hi hne => at_kept (h2 i hi hne) (hq _ (by omega))
  have h5 := fun i hi => at_kept (h5 i hi) (hq _ (by omega))
  refine lv_aload hx hb dX2_addUser_21 (lv_at hl 0 rfl) ?_
  refine lv_iconst (v := nI 2) hx hb dX2_addUser_23 (by decide) ?_
  refine lv_iload_n hx hb dX2_addUser_24 rfl (lv_at hl 4 rfl) ?_
  refine r_iast hx hb hK hrw ⟨by omega, by omega⟩ hS rfl 2 (by omega) (by decide) dX2_addUser_25 (fun H locs hrw hz9 hq hS => ?_)
  have h0 := at_kept h0 (hq _ (by omega))
  have h1 := at_kept h1 (hq _ (by omega))
  have h4 := at_kept h4 (hq _ (by omega))
  have h2 := fun i hi hne => at_kept (h2 i hi hne) (hq _ (by omega))
  have h5 := fun i hi => at_kept (h5 i hi) (hq _ (by omega))
  refine lv_aload hx hb dX2_addUser_26 (lv_at hl 0 rfl) ?_
  refine lv_iconst (v := nI 3) hx hb dX2_addUser_28 (by decide) ?_
  refine lv_iload hx hb dX2_addUser_29 (lv_at hl 5 rfl) ?_
  refine r_iast hx hb hK hrw ⟨by omega, by omega⟩ hS rfl 3 (by omega) (by decide) dX2_addUser_31 (fun H locs hrw hz9 hq hS => ?_)
  have h0 := at_kept h0 (hq _ (by omega))
  have h1 := at_kept h1 (hq _ (by omega))
  have h4 := at_kept h4 (hq _ (by omega))
  have h2 := fun i hi hne => at_kept (h2 i hi hne) (hq _ (by omega))
  have h5 := fun i hi => at_kept (h5 i hi) (hq _ (by omega))
  refine lv_aload hx hb dX2_addUser_32 (lv_at hl 0 rfl) ?_
  refine lv_iconst (v := nI 4) hx hb dX2_addUser_34 (by decide) ?_
  refine lv_aload_n hx hb dX2_addUser_35 rfl (lv_at hl 1 rfl) ?_
  refine r_cV (av := []) (c_X2_allChannels l G t o z hz) ⟨hx, hb, hml, hown, hts⟩ (cwV 0 hts gX2_addUser_X2_allChannels rfl rfl rfl (by decide +kernel) ⟨Nat.le_of_ble_eq_true rfl, Nat.le_of_ble_eq_true rfl⟩) mv_K ⟨hK, (Sc_mk rfl rfl rfl h0 h1 (rows_put hrw h2) h4 h5 (fun i hi v hv => by rw [va_up_ne _ _ (by omega)]; exact h6 i hi v hv) h7)⟩ (at_recv hK h0 rfl) rfl hl (Nat.le_of_ble_eq_true rfl) ⟨Nat.le_of_ble_eq_true rfl, Nat.le_of_ble_eq_true rfl⟩ rfl dX2_addUser_36 (fun r1 hr1 => ?_)
  subst hr1
  refine r_iast hx hb hK hrw ⟨by omega, by omega⟩ hS rfl 4 (by omega) (by decide) dX2_addUser_39 (fun H locs hrw hz9 hq hS => ?_)
  have h0 := at_kept h0 (hq _ (by omega))
  have h1 := at_kept h1 (hq _ (by omega))
  have h4 := at_kept h4 (hq _ (by omega))
  have h2 := fun i hi hne => at_kept (h2 i hi hne) (hq _ (by omega))
  have h5 := fun i hi => at_kept (h5 i hi) (hq _ (by omega))
  refine lv_aload_n hx hb dX2_addUser_40 rfl (lv_at hl 1 rfl) ?_
  refine lv_dup hx hb dX2_addUser_41 rfl ?_
  refine r_get (C := RX2) (T := TX2) (N := 6) hx hb hts iiX2_addUser_2 hown hK h0 rfl 2 (by decide) (hts (.fieldLink RX2 34 "HopMeet$Scene" "userCount" "I") (List.mem_of_getElem? (i := 2) rfl)) rfl dX2_addUser_42 ?_
  refine lv_iconst (v := nI 1) hx hb dX2_addUser_45 (by decide) ?_
  refine r_iaddN hx hb dX2_addUser_46 ?_
  refine r_put (ty := .int) (ci := 2) (C := RX2) (T := TX2) (N := 6) (fs' := [.int (nI (cn z)), .int (nI (prN (cn z))), .int (nI ((cu z) + 1)), .int (nI (cs z)), .ref (o + 1), .ref (o + 7)]) hx hb hts iiX2_addUser_2 tyX2 tyX2_ok nmX2 hown hK h0 ⟨by omega, by omega⟩ hS rfl 2 (by decide) (hts (.fieldLink RX2 34 "HopMeet$Scene" "userCount" "I") (List.mem_of_getElem? (i := 2) rfl)) rfl (by decide +kernel) rfl rfl (Nat.le_of_ble_eq_true rfl) rfl dX2_addUser_47 (fun H locs h0 hz9 hq hS => ?_)
  have h1 := at_kept h1 (hq _ (by omega))
  have h4 := at_kept h4 (hq _ (by omega))
  have hrw := at_kept hrw (hq _ (by omega))
  have h2 := fun i hi hne => at_kept (h2 i hi hne) (hq _ (by omega))
  have h5 := fun i hi => at_kept (h5 i hi) (hq _ (by omega))
  exact r_retV hx hb hr hlocks hS (Sc_mk zUser_n (zUser_u hlt) zUser_s h0 h1 (rows_put hrw h2) h4 h5 (us_ext h6) (fun i hi v hv => by rw [zUser_old (by omega) (by omega)]; exact h7 i hi v hv)) dX2_addUser_50

set_option maxRecDepth 20000 in
theorem iiX2_addSpell_2 : ∀ w ∈ wsX20, w ∈ wsX2_addSpell := by decide +kernel
set_option maxHeartbeats 4000000 in
set_option maxRecDepth 100000 in
/-- a spell more -/
theorem c_X2_addSpell (l : Launch) (G : va_G) (t : gT) (o : Nat) (z : Nat → Int32) (hz : WF z) (hlt : cs z < 8) (u ch x y : Int32) : Met l yX2_addSpell wsX2_addSpell ({ frames := 0, cells := 0, slots := 0, locals := 0 } : Room) (pc_ [.ref o, .int u, .int ch, .int x, .int y] (fun U H => KK G t U ∧ Sc G t o z H)) (qv_ (fun H => Sc G t o (zSpell z u ch x y) H) (iv o (o + 16))) 0 0 (iv o (o + 16)) := by
  refine Met.ofW (cc := cX2_addSpell) (maxL := 6) (ret := none) (by decide) rfl ?_
  intro p e s m args below meth c s₁ B hml hv
  obtain ⟨rfl, hB⟩ := hv
  have hx := B.exec
  have hb := B.bytes
  have hr := B.returns
  have hts := atoms_spec (ws := wsX2_addSpell) B.pre
  have hown : s.vm.findClass RX2 = some m.cls := findClass_of_methodNamed B.named
  have hlocks := B.notSynchronized
  have hK := hB.1
  obtain ⟨fU, fS, h0, h1, h2, h4, h5, h6, h7⟩ := hB.2
  have hn := hz.n
  have hu5 := hz.u5
  have hs8 := hz.s8
  have hg := h5 (cs z) hlt
  have h5 : ∀ i, i < 8 → i ≠ cs z → at_ G (o + 8 + i) (aI t 4 (fS i)) s.heap := fun i hi _ => h5 i hi
  have hS : va_S (iv o (o + 16)) s.heap s.heap [] := va_S.rf
  have hl := lv_entry ([.ref o, .int u, .int ch, .int x, .int y]) (n := 6) (Nat.le_of_ble_eq_true rfl)
  rw [lg_entry_eq]
  generalize (lg_sl ([.ref o, .int u, .int ch, .int x, .int y]) ++ List.replicate (6 - (lg_sl ([.ref o, .int u, .int ch, .int x, .int y])).length) Slot.unset).toArray = ls at hl ⊢
  have hl : lv_has ls 6 [(0, .ref o), (1, .int u), (2, .int ch), (3, .int x), (4, .int y)] := hl
  refine lv_aload_n hx hb dX2_addSpell_0 rfl (lv_at hl 0 rfl) ?_
  refine r_get (C := RX2) (T := TX2) (N := 6) hx hb hts iiX2_addSpell_2 hown hK h0 rfl 5 (by decide) (hts (.fieldLink RX2 16 "HopMeet$Scene" "spells" "[[I") (List.mem_of_getElem? (i := 1) rfl)) rfl dX2_addSpell_1 ?_
  refine lv_aload_n hx hb dX2_addSpell_4 rfl (lv_at hl 0 rfl) ?_
  refine r_get (C := RX2) (T := TX2) (N := 6) hx hb hts iiX2_addSpell_2 hown hK h0 rfl 3 (by decide) (hts (.fieldLink RX2 37 "HopMeet$Scene" "spellCount" "I") (List.mem_of_getElem? (i := 2) rfl)) rfl dX2_addSpell_5 ?_
  refine r_rald hx hb hK h4 1 rfl rfl (cs z) (by omega) (by decide) (b := o + 8 + (cs z)) (rowsF_at (by omega)) dX2_addSpell_8 ?_
  refine lv_astore (lv' := [(5, .ref (o + 8 + (cs z))), (0, .ref o), (1, .int u), (2, .int ch), (3, .int x), (4, .int y)]) hx hb dX2_addSpell_9 hl (by decide) rfl (fun ls hl => ?_)
  refine lv_aload hx hb dX2_addSpell_11 (lv_at hl 0 rfl) ?_
  refine lv_iconst (v := nI 0) hx hb dX2_addSpell_13 (by decide) ?_
  refine lv_iload_n hx hb dX2_addSpell_14 rfl (lv_at hl 2 rfl) ?_
  refine r_iast hx hb hK hg ⟨by omega, by omega⟩ hS rfl 0 (by omega) (by decide) dX2_addSpell_15 (fun H locs hg hz9 hq hS => ?_)
  have h0 := at_kept h0 (hq _ (by omega))
  have h1 := at_kept h1 (hq _ (by omega))
  have h4 := at_kept h4 (hq _ (by omega))
  have h2 := fun i hi => at_kept (h2 i hi) (hq _ (by omega))
  have h5 := fun i hi hne => at_kept (h5 i hi hne) (hq _ (by omega))
  refine lv_aload hx hb dX2_addSpell_16 (lv_at hl 0 rfl) ?_
  refine lv_iconst (v := nI 1) hx hb dX2_addSpell_18 (by decide) ?_
  refine lv_iload_n hx hb dX2_addSpell_19 rfl (lv_at hl 3 rfl) ?_
  refine r_iast hx hb hK hg ⟨by omega, by omega⟩ hS rfl 1 (by omega) (by decide) dX2_addSpell_20 (fun H locs hg hz9 hq hS => ?_)
  have h0 := at_kept h0 (hq _ (by omega))
  have h1 := at_kept h1 (hq _ (by omega))
  have h4 := at_kept h4 (hq _ (by omega))
  have h2 := fun i hi => at_kept (h2 i hi) (hq _ (by omega))
  have h5 := fun i hi hne => at_kept (h5 i hi hne) (hq _ (by omega))
  refine lv_aload hx hb dX2_addSpell_21 (lv_at hl 0 rfl) ?_
  refine lv_iconst (v := nI 2) hx hb dX2_addSpell_23 (by decide) ?_
  refine lv_iload_n hx hb dX2_addSpell_24 rfl (lv_at hl 4 rfl) ?_
  refine r_iast hx hb hK hg ⟨by omega, by omega⟩ hS rfl 2 (by omega) (by decide) dX2_addSpell_25 (fun H locs hg hz9 hq hS => ?_)
  have h0 := at_kept h0 (hq _ (by omega))
  have h1 := at_kept h1 (hq _ (by omega))
  have h4 := at_kept h4 (hq _ (by omega))
  have h2 := fun i hi => at_kept (h2 i hi) (hq _ (by omega))
  have h5 := fun i hi hne => at_kept (h5 i hi hne) (hq _ (by omega))
  refine lv_aload hx hb dX2_addSpell_26 (lv_at hl 0 rfl) ?_
  refine lv_iconst (v := nI 3) hx hb dX2_addSpell_28 (by decide) ?_
  refine lv_iload hx hb dX2_addSpell_29 (lv_at hl 5 rfl) ?_
  refine r_iast hx hb hK hg ⟨by omega, by omega⟩ hS rfl 3 (by omega) (by decide) dX2_addSpell_31 (fun H locs hg hz9 hq hS => ?_)
  have h0 := at_kept h0 (hq _ (by omega))
  have h1 := at_kept h1 (hq _ (by omega))
  have h4 := at_kept h4 (hq _ (by omega))
  have h2 := fun i hi => at_kept (h2 i hi) (hq _ (by omega))
  have h5 := fun i hi hne => at_kept (h5 i hi hne) (hq _ (by omega))
  refine lv_aload_n hx hb dX2_addSpell_32 rfl (lv_at hl 1 rfl) ?_
  refine lv_dup hx hb dX2_addSpell_33 rfl ?_
  refine r_get (C := RX2) (T := TX2) (N := 6) hx hb hts iiX2_addSpell_2 hown hK h0 rfl 3 (by decide) (hts (.fieldLink RX2 37 "HopMeet$Scene" "spellCount" "I") (List.mem_of_getElem? (i := 2) rfl)) rfl dX2_addSpell_34 ?_
  refine lv_iconst (v := nI 1) hx hb dX2_addSpell_37 (by decide) ?_
  refine r_iaddN hx hb dX2_addSpell_38 ?_
  refine r_put (ty := .int) (ci := 2) (C := RX2) (T := TX2) (N := 6) (fs' := [.int (nI (cn z)), .int (nI (prN (cn z))), .int (nI (cu z)), .int (nI ((cs z) + 1)), .ref (o + 1), .ref (o + 7)]) hx hb hts iiX2_addSpell_2 tyX2 tyX2_ok nmX2 hown hK h0 ⟨by omega, by omega⟩ hS rfl 3 (by decide) (hts (.fieldLink RX2 37 "HopMeet$Scene" "spellCount" "I") (List.mem_of_getElem? (i := 2) rfl)) rfl (by decide +kernel) rfl rfl (Nat.le_of_ble_eq_true rfl) rfl dX2_addSpell_39 (fun H locs h0 hz9 hq hS => ?_)
  have h1 := at_kept h1 (hq _ (by omega))
  have h4 := at_kept h4 (hq _ (by omega))
  have hg := at_kept hg (hq _ (by omega))
  have h2 := fun i hi => at_kept (h2 i hi) (hq _ (by omega))
  have h5 := fun i hi hne => at_kept (h5 i hi hne) (hq _ (by omega))
  exact r_retV hx hb hr hlocks hS (Sc_mk zSpell_n zSpell_u (zSpell_s hlt) h0 h1 h2 h4 (rows_put hg h5) (fun i hi v hv => by rw [zSpell_old (by omega) (by omega)]; exact h6 i hi v hv) (ss_ext h7)) dX2_addSpell_42

set_option maxRecDepth 20000 in
theorem iiX2_drawLots_2 : ∀ w ∈ wsX20, w ∈ wsX2_drawLots := by decide +kernel
set_option maxHeartbeats 4000000 in
set_option maxRecDepth 100000 in
/-- users by lots -/
theorem c_X2_drawLots (l : Launch) (G : va_G) (t : gT) (o : Nat) (z : Nat → Int32) (hz : WF z) (x : Nat) (hx0 : x < 2147483647) : Met l yX2_drawLots wsX2_drawLots ({ frames := 1, cells := 0, slots := 0, locals := 21 } : Room) (pc_ [.ref o, .int (nI x)] (fun U H => KK G t U ∧ Sc G t o z H)) (qv_ (fun H => Sc G t o (zDrift z x (cu z)) H) (iv o (o + 16))) 0 0 (iv o (o + 16)) := by
  refine Met.ofW (cc := cX2_drawLots) (maxL := 7) (ret := none) (by decide) rfl ?_
  intro p e s m args below meth c s₁ B hml hv
  obtain ⟨rfl, hB⟩ := hv
  have hx := B.exec
  have hb := B.bytes
  have hr := B.returns
  have hts := atoms_spec (ws := wsX2_drawLots) B.pre
  have hown : s.vm.findClass RX2 = some m.cls := findClass_of_methodNamed B.named
  have hlocks := B.notSynchronized
  have hK := hB.1
  obtain ⟨fU, fS, h0, h1, h2, h4, h5, h6, h7⟩ := hB.2
  have hn := hz.n
  have hu5 := hz.u5
  have hs8 := hz.s8
  have hpw := pow_le10 hn.2
  have hS : va_S (iv o (o + 16)) s.heap s.heap [] := va_S.rf
  have hl := lv_entry ([.ref o, .int (nI x)]) (n := 7) (Nat.le_of_ble_eq_true rfl)
  rw [lg_entry_eq]
  generalize (lg_sl ([.ref o, .int (nI x)]) ++ List.replicate (7 - (lg_sl ([.ref o, .int (nI x)])).length) Slot.unset).toArray = ls at hl ⊢
  have hl : lv_has ls 7 [(0, .ref o), (1, .int (nI x))] := hl
  refine lv_iload_n hx hb dX2_drawLots_0 rfl (lv_at hl 1 rfl) ?_
  refine lv_i2l (v := lN x) hx hb dX2_drawLots_1 (nI_l (by omega)) ?_
  refine lv_lstore_n (lv' := [(2, .long (lN x)), (0, .ref o), (1, .int (nI x))]) hx hb dX2_drawLots_2 rfl hl (by decide) rfl (fun ls hl => ?_)
  refine lv_aload_n hx hb dX2_drawLots_3 rfl (lv_at hl 1 rfl) ?_
  refine r_cV (av := []) (c_X2_allChannels l G t o z hz) ⟨hx, hb, hml, hown, hts⟩ (cwV 0 hts gX2_drawLots_X2_allChannels rfl rfl rfl (by decide +kernel) ⟨Nat.le_of_ble_eq_true rfl, Nat.le_of_ble_eq_true rfl⟩) mv_K hB (at_recv hK h0 rfl) rfl hl (Nat.le_of_ble_eq_true rfl) ⟨Nat.le_of_ble_eq_true rfl, Nat.le_of_ble_eq_true rfl⟩ rfl dX2_drawLots_4 (fun r1 hr1 => ?_)
  subst hr1
  refine lv_iconst (v := nI 1) hx hb dX2_drawLots_7 (by decide) ?_
  refine r_iaddN hx hb dX2_drawLots_8 ?_
  refine r_top (y := nI (2 ^ cn z)) (congrArg nI (Nat.sub_add_cancel (Nat.two_pow_pos _))) ?_
  refine lv_istore (lv' := [(4, .int (nI (2 ^ cn z))), (2, .long (lN x)), (0, .ref o), (1, .int (nI x))]) hx hb dX2_drawLots_9 hl (by decide) rfl (fun ls hl => ?_)
  refine lv_iconst (v := nI 0) hx hb dX2_drawLots_11 (by decide) ?_
  refine lv_istore (lv' := [(5, .int (nI 0)), (4, .int (nI (2 ^ cn z))), (2, .long (lN x)), (0, .ref o), (1, .int (nI x))]) hx hb dX2_drawLots_12 hl (by decide) rfl (fun ls hl => ?_)
  have loop14 : ∀ (fu : Nat) (j : Nat) (F : Nat → Nat → Int32) (hj : j ≤ cu z) (hF : ∀ i, i < cu z → ∀ w, w < 5 → F i w = zDrift z x j (3 + 5 * i + w)) (hfu : cu z - j < fu) (H : Heap) (locs : List Loc) (h0 : at_ G o (.inr (2, [.int (nI (cn z)), .int (nI (prN (cn z))), .int (nI (cu z)), .int (nI (cs z)), .ref (o + 1), .ref (o + 7)])) H) (h1 : at_ G (o + 1) (aR t 5 (rowsF 5 (o + 2))) H) (h4 : at_ G (o + 7) (aR t 8 (rowsF 8 (o + 8))) H) (h2 : ∀ i, i < 5 → at_ G (o + 2 + i) (aI t 5 (F i)) H) (h5 : ∀ i, i < 8 → at_ G (o + 8 + i) (aI t 4 (fS i)) H) (hS : va_S (iv o (o + 16)) s.heap H locs) (ls : Array Slot) (hl : lv_has ls 7 [(0, .ref o), (2, .long (lN (drX x j))), (4, .int (nI (2 ^ cn z))), (5, .int (nI j))]), W p l e (headSpec wsX2_drawLots ({ frames := 1, cells := 0, slots := 0, locals := 21 } : Room)).room s m ([.ref o, .int (nI x)] : List Value).toArray below meth c H locs 0 0 (MQ below (qv_ (fun H => Sc G t o (zDrift z x (cu z)) H) (iv o (o + 16))) ([.ref o, .int (nI x)] : List Value).toArray s 0 0 (iv o (o + 16))) (F0 m 14 ls []) := by
    intro fu
    induction fu with
    | zero => intro j F hj hF hfu; exact absurd hfu (Nat.not_lt_zero _)
    | succ fu14 ih14 =>
      intro j F hj hF hfu H locs h0 h1 h4 h2 h5 hS ls hl
      refine lv_iload hx hb dX2_drawLots_14 (lv_at hl 3 rfl) ?_
      refine lv_aload_n hx hb dX2_drawLots_16 rfl (lv_at hl 0 rfl) ?_
      refine r_get (C := RX2) (T := TX2) (N := 6) hx hb hts iiX2_drawLots_2 hown hK h0 rfl 2 (by decide) (hts (.fieldLink RX2 34 "HopMeet$Scene" "userCount" "I") (List.mem_of_getElem? (i := 1) rfl)) rfl dX2_drawLots_17 ?_
      refine r_geN hx hb (by omega) (by omega) dX2_drawLots_20 (tgt := 98) (by decide) (fun c1 => ?_) (fun c1 => ?_)
      · exact r_retV hx hb hr hlocks hS (Sc_mk (zDrift_n z x _) (zDrift_u z x _) (zDrift_s z x _) h0 h1 h2 h4 h5 (fun i hi w hw => by rw [show cu z = j by omega] at hi ⊢; exact hF i (by omega) w hw) (fun i hi w hw => by rw [zDrift_hi _ (by omega)]; exact h7 i hi w hw)) dX2_drawLots_98
      · have hrw := h2 j (by omega)
        have h2 : ∀ i, i < 5 → i ≠ j → at_ G (o + 2 + i) (aI t 5 (F i)) H := fun i hi _ => h2 i hi
        have hx1 := drX_lt hx0 j
        refine lv_aload_n hx hb dX2_drawLots_23 rfl (lv_at hl 0 rfl) ?_
        refine r_get (C := RX2) (T := TX2) (N := 6) hx hb hts iiX2_drawLots_2 hown hK h0 rfl 4 (by decide) (hts (.fieldLink RX2 11 "HopMeet$Scene" "users" "[[I") (List.mem_of_getElem? (i := 2) rfl)) rfl dX2_drawLots_24 ?_
        refine lv_iload hx hb dX2_drawLots_27 (lv_at hl 3 rfl) ?_
        refine r_rald hx hb hK h1 1 rfl rfl j (by omega) (by decide) (b := o + 2 + j) (rowsF_at (by omega)) dX2_drawLots_29 ?_
        refine lv_astore (lv' := [(6, .ref (o + 2 + j)), (0, .ref o), (2, .long (lN (drX x j))), (4, .int (nI (2 ^ cn z))), (5, .int (nI j))]) hx hb dX2_drawLots_30 hl (by decide) rfl (fun ls hl => ?_)
        refine lv_lload_n hx hb dX2_drawLots_32 rfl (lv_at hl 2 rfl) ?_
        refine r_cSl (av := [.long (lN (drX x j))]) (c_X2_nextLot l G t (drX x j) hx1) ⟨hx, hb, hml, hown, hts⟩ (va_cwS 1 hts gX2_drawLots_X2_nextLot rfl rfl rfl (by decide +kernel) ⟨Nat.le_of_ble_eq_true rfl, Nat.le_of_ble_eq_true rfl⟩) mv_T trivial rfl hl (Nat.le_of_ble_eq_true rfl) ⟨Nat.le_of_ble_eq_true rfl, Nat.le_of_ble_eq_true rfl⟩ rfl dX2_drawLots_33 (fun r2 hr2 => ?_)
        subst hr2
        refine lv_lstore_n (lv' := [(2, .long (lN (lotN (drX x j)))), (6, .ref (o + 2 + j)), (0, .ref o), (4, .int (nI (2 ^ cn z))), (5, .int (nI j))]) hx hb dX2_drawLots_36 rfl hl (by decide) rfl (fun ls hl => ?_)
        refine lv_aload hx hb dX2_drawLots_37 (lv_at hl 1 rfl) ?_
        refine lv_iconst (v := nI 4) hx hb dX2_drawLots_39 (by decide) ?_
        refine lv_lload_n hx hb dX2_drawLots_40 rfl (lv_at hl 0 rfl) ?_
        refine lv_iload hx hb dX2_drawLots_41 (lv_at hl 3 rfl) ?_
        refine lv_i2l (v := lN (2 ^ cn z)) hx hb dX2_drawLots_43 (nI_l (by omega)) ?_
        refine lv_lrem hx hb dX2_drawLots_44 (lN_n0 (Nat.two_pow_pos _) (by omega)) ?_
        refine r_topL (y := lN ((lotN (drX x j)) % (2 ^ cn z))) (pk_lRem (Nat.lt_trans (lotN_lt _) (by decide)) (Nat.two_pow_pos _) (by omega)) ?_
        refine lv_l2i (v := nI ((lotN (drX x j)) % (2 ^ cn z))) hx hb dX2_drawLots_45 (lN_i _) ?_
        refine r_iast hx hb hK hrw ⟨by omega, by omega⟩ hS rfl 4 (by omega) (by decide) dX2_drawLots_46 (fun H locs hrw hz9 hq hS => ?_)
        have h0 := at_kept h0 (hq _ (by omega))
        have h1 := at_kept h1 (hq _ (by omega))
        have h4 := at_kept h4 (hq _ (by omega))
        have h2 := fun i hi hne => at_kept (h2 i hi hne) (hq _ (by omega))
        have h5 := fun i hi => at_kept (h5 i hi) (hq _ (by omega))
        refine lv_lload_n hx hb dX2_drawLots_47 rfl (lv_at hl 0 rfl) ?_
        refine r_cSl (av := [.long (lN (lotN (drX x j)))]) (c_X2_nextLot l G t (lotN (drX x j)) (lotN_lt _)) ⟨hx, hb, hml, hown, hts⟩ (va_cwS 1 hts gX2_drawLots_X2_nextLot rfl rfl rfl (by decide +kernel) ⟨Nat.le_of_ble_eq_true rfl, Nat.le_of_ble_eq_true rfl⟩) mv_T trivial rfl hl (Nat.le_of_ble_eq_true rfl) ⟨Nat.le_of_ble_eq_true rfl, Nat.le_of_ble_eq_true rfl⟩ rfl dX2_drawLots_48 (fun r3 hr3 => ?_)
        subst hr3
        refine lv_lstore_n (lv' := [(2, .long (lN (lotN (lotN (drX x j))))), (6, .ref (o + 2 + j)), (0, .ref o), (4, .int (nI (2 ^ cn z))), (5, .int (nI j))]) hx hb dX2_drawLots_51 rfl hl (by decide) rfl (fun ls hl => ?_)
        refine lv_aload hx hb dX2_drawLots_52 (lv_at hl 1 rfl) ?_
        refine lv_iconst (v := nI 1) hx hb dX2_drawLots_54 (by decide) ?_
        refine lv_lload_n hx hb dX2_drawLots_55 rfl (lv_at hl 0 rfl) ?_
        refine lv_ldc2 (v := 100) hx hb hown (hts (.constantLong RX2 54 (100)) (List.mem_of_getElem? (i := 3) rfl)) dX2_drawLots_56 ?_
        refine r_topL (y := lN 100) rfl ?_
        refine lv_lrem hx hb dX2_drawLots_59 (by decide) ?_
        refine r_topL (y := lN ((lotN (lotN (drX x j))) % 100)) (pk_lRem (Nat.lt_trans (lotN_lt _) (by decide)) (by decide) (by decide)) ?_
        refine lv_l2i (v := nI ((lotN (lotN (drX x j))) % 100)) hx hb dX2_drawLots_60 (lN_i _) ?_
        refine r_iast hx hb hK hrw ⟨by omega, by omega⟩ hS rfl 1 (by omega) (by decide) dX2_drawLots_61 (fun H locs hrw hz9 hq hS => ?_)
        have h0 := at_kept h0 (hq _ (by omega))
        have h1 := at_kept h1 (hq _ (by omega))
        have h4 := at_kept h4 (hq _ (by omega))
        have h2 := fun i hi hne => at_kept (h2 i hi hne) (hq _ (by omega))
        have h5 := fun i hi => at_kept (h5 i hi) (hq _ (by omega))
        refine lv_lload_n hx hb dX2_drawLots_62 rfl (lv_at hl 0 rfl) ?_
        refine r_cSl (av := [.long (lN (lotN (lotN (drX x j))))]) (c_X2_nextLot l G t (lotN (lotN (drX x j))) (lotN_lt _)) ⟨hx, hb, hml, hown, hts⟩ (va_cwS 1 hts gX2_drawLots_X2_nextLot rfl rfl rfl (by decide +kernel) ⟨Nat.le_of_ble_eq_true rfl, Nat.le_of_ble_eq_true rfl⟩) mv_T trivial rfl hl (Nat.le_of_ble_eq_true rfl) ⟨Nat.le_of_ble_eq_true rfl, Nat.le_of_ble_eq_true rfl⟩ rfl dX2_drawLots_63 (fun r4 hr4 => ?_)
        subst hr4
        refine lv_lstore_n (lv' := [(2, .long (lN (lotN (lotN (lotN (drX x j)))))), (6, .ref (o + 2 + j)), (0, .ref o), (4, .int (nI (2 ^ cn z))), (5, .int (nI j))]) hx hb dX2_drawLots_66 rfl hl (by decide) rfl (fun ls hl => ?_)
        refine lv_aload hx hb dX2_drawLots_67 (lv_at hl 1 rfl) ?_
        refine lv_iconst (v := nI 2) hx hb dX2_drawLots_69 (by decide) ?_
        refine lv_lload_n hx hb dX2_drawLots_70 rfl (lv_at hl 0 rfl) ?_
        refine lv_ldc2 (v := 100) hx hb hown (hts (.constantLong RX2 54 (100)) (List.mem_of_getElem? (i := 3) rfl)) dX2_drawLots_71 ?_
        refine r_topL (y := lN 100) rfl ?_
        refine lv_lrem hx hb dX2_drawLots_74 (by decide) ?_
        refine r_topL (y := lN ((lotN (lotN (lotN (drX x j)))) % 100)) (pk_lRem (Nat.lt_trans (lotN_lt _) (by decide)) (by decide) (by decide)) ?_
        refine lv_l2i (v := nI ((lotN (lotN (lotN (drX x j)))) % 100)) hx hb dX2_drawLots_75 (lN_i _) ?_
        refine r_iast hx hb hK hrw ⟨by omega, by omega⟩ hS rfl 2 (by omega) (by decide) dX2_drawLots_76 (fun H locs hrw hz9 hq hS => ?_)
        have h0 := at_kept h0 (hq _ (by omega))
        have h1 := at_kept h1 (hq _ (by omega))
        have h4 := at_kept h4 (hq _ (by omega))
        have h2 := fun i hi hne => at_kept (h2 i hi hne) (hq _ (by omega))
        have h5 := fun i hi => at_kept (h5 i hi) (hq _ (by omega))
        refine lv_lload_n hx hb dX2_drawLots_77 rfl (lv_at hl 0 rfl) ?_
        refine r_cSl (av := [.long (lN (lotN (lotN (lotN (drX x j)))))]) (c_X2_nextLot l G t (lotN (lotN (lotN (drX x j)))) (lotN_lt _)) ⟨hx, hb, hml, hown, hts⟩ (va_cwS 1 hts gX2_drawLots_X2_nextLot rfl rfl rfl (by decide +kernel) ⟨Nat.le_of_ble_eq_true rfl, Nat.le_of_ble_eq_true rfl⟩) mv_T trivial rfl hl (Nat.le_of_ble_eq_true rfl) ⟨Nat.le_of_ble_eq_true rfl, Nat.le_of_ble_eq_true rfl⟩ rfl dX2_drawLots_78 (fun r5 hr5 => ?_)
        subst hr5
        refine lv_lstore_n (lv' := [(2, .long (lN (lotN (lotN (lotN (lotN (drX x j))))))), (6, .ref (o + 2 + j)), (0, .ref o), (4, .int (nI (2 ^ cn z))), (5, .int (nI j))]) hx hb dX2_drawLots_81 rfl hl (by decide) rfl (fun ls hl => ?_)
        refine lv_aload hx hb dX2_drawLots_82 (lv_at hl 1 rfl) ?_
        refine lv_iconst (v := nI 3) hx hb dX2_drawLots_84 (by decide) ?_
        refine lv_lload_n hx hb dX2_drawLots_85 rfl (lv_at hl 0 rfl) ?_
        refine lv_ldc2 (v := 50) hx hb hown (hts (.constantLong RX2 56 (50)) (List.mem_of_getElem? (i := 4) rfl)) dX2_drawLots_86 ?_
        refine r_topL (y := lN 50) rfl ?_
        refine lv_lrem hx hb dX2_drawLots_89 (by decide) ?_
        refine r_topL (y := lN ((lotN (lotN (lotN (lotN (drX x j))))) % 50)) (pk_lRem (Nat.lt_trans (lotN_lt _) (by decide)) (by decide) (by decide)) ?_
        refine lv_l2i (v := nI ((lotN (lotN (lotN (lotN (drX x j))))) % 50)) hx hb dX2_drawLots_90 (lN_i _) ?_
        refine r_iast hx hb hK hrw ⟨by omega, by omega⟩ hS rfl 3 (by omega) (by decide) dX2_drawLots_91 (fun H locs hrw hz9 hq hS => ?_)
        have h0 := at_kept h0 (hq _ (by omega))
        have h1 := at_kept h1 (hq _ (by omega))
        have h4 := at_kept h4 (hq _ (by omega))
        have h2 := fun i hi hne => at_kept (h2 i hi hne) (hq _ (by omega))
        have h5 := fun i hi => at_kept (h5 i hi) (hq _ (by omega))
        refine lv_iinc (v := nI (j + 1)) (lv' := [(5, .int (nI (j + 1))), (2, .long (lN (lotN (lotN (lotN (lotN (drX x j))))))), (6, .ref (o + 2 + j)), (0, .ref o), (4, .int (nI (2 ^ cn z)))]) hx hb dX2_drawLots_92 hl (k := 4) rfl (nI_1 _) (by decide) rfl (fun ls hl => ?_)
        refine lv_goto (tgt := 14) hx hb dX2_drawLots_95 (by decide) ?_
        exact ih14 (j + 1) (va_up F j (upd (upd (upd (upd (F j) 4 (nI ((lotN (drX x j)) % (2 ^ cn z)))) 1 (nI ((lotN (lotN (drX x j))) % 100))) 2 (nI ((lotN (lotN (lotN (drX x j)))) % 100))) 3 (nI ((lotN (lotN (lotN (lotN (drX x j))))) % 50)))) (by omega) (dr_ext hF c1) (by omega) _ _ h0 h1 h4 (rows_put hrw h2) h5 hS ls (lv_sub hl [3, 1, 4, 0] rfl)
  exact loop14 _ 0 fU (Nat.zero_le _) h6 (Nat.lt_succ_self _) _ _ h0 h1 h4 h2 h5 hS ls (lv_sub hl [3, 2, 1, 0] rfl)
end
section
/-! the state of both, and what each call answers and does (in numbers) -/
abbrev aS : Type := (Nat → Int32) × (Nat → Nat) × Nat × Nat × (Nat → Nat → Int32) × (Nat → Bool) × (Nat → Nat → Int32)
theorem in_t2 {v a b : Int32} (h : ¬ v < a) (h2 : v ≤ b) : inB v a b = true := decide_eq_true ⟨Int32.not_lt.mp h, h2⟩
theorem in_f3 {v a b : Int32} (h : ¬ v ≤ b) : inB v a b = false := decide_eq_false (fun q => h q.2)
theorem in_of {v : Int32} {a b : Nat} (hb : b < 2 ^ 31) (ha : a ≤ b) (h : inB v (nI a) (nI b) = true) : ∃ k, a ≤ k ∧ k ≤ b ∧ v = nI k := by
  obtain ⟨h1, h2⟩ := of_decide_eq_true h
  rw [Int32.le_iff_toInt_le] at h1 h2
  rw [nI_toInt (by omega)] at h1
  rw [nI_toInt hb] at h2
  obtain ⟨k, hk, rfl⟩ := nI_of (x := v) (fun q => by
    rw [Int32.lt_iff_toInt_lt, Int32.toInt_zero] at q
    omega)
  rw [nI_toInt hk] at h1 h2
  exact ⟨k, by omega, by omega, rfl⟩
theorem in_N {k a b : Nat} (hb : b < 2 ^ 31) (h1 : a ≤ k) (h2 : k ≤ b) : inB (nI k) (nI a) (nI b) = true := by
  rw [inB_N (by omega) (by omega) hb]
  exact decide_eq_true ⟨h1, h2⟩
def cl (u : Int32) : Nat := u.toNatClampNeg
theorem cl_N {k : Nat} (h : k < 2 ^ 31) : cl (nI k) = k := nI_clamp h
def idN : Nat → Nat := fun u => u
def push (bk : Nat → Nat → Int32) (z : Nat → Int32) : Nat → Nat → Int32 := fun j => if j = 0 then z else bk (j - 1)
def inc12 (bc : Nat) : Nat := if bc + 1 < 12 then bc + 1 else 12
/-- the bounds of what a user has -/
def mhB (w v : Int32) : Bool := inB w (nI 0) (nI 3) && ibB w v
def rChannels (n : Int32) : Int32 := cond (inB n (nI 2) (nI 10)) (nI (prN (cl n))) (-1000000002)
def oChannels (n : Int32) (z : Nat → Int32) (gr : Nat → Nat) (sl bc : Nat) (bk : Nat → Nat → Int32) (kp : Nat → Bool) (im : Nat → Nat → Int32) : aS := cond (inB n (nI 2) (nI 10)) (zClear (cl n) z, idN, 0, 0, bk, kp, im) (z, gr, sl, bc, bk, kp, im)
def okUser (r x y w : Int32) : Bool := ibB 0 r && (ibB 1 x && (ibB 2 y && ibB 3 w))
def rUser (r x y w : Int32) (z : Nat → Int32) : Int32 := cond (okUser r x y w) (cond (decide (cu z < 5)) (nI (cu z)) (-1000000004)) (-1000000002)
def oUser (r x y w : Int32) (z : Nat → Int32) (gr : Nat → Nat) (sl bc : Nat) (bk : Nat → Nat → Int32) (kp : Nat → Bool) (im : Nat → Nat → Int32) : aS := cond (okUser r x y w && decide (cu z < 5)) (zUser z r x y w, idN, 0, inc12 bc, push bk z, kp, im) (z, gr, sl, bc, bk, kp, im)
def rOpen (u v : Int32) (z : Nat → Int32) : Int32 := cond (usB z u) (cond (inB v (nI 0) (nI (2 ^ cn z - 1))) (z (3 + 5 * cl u + 4)) (-1000000002)) (-1000000001)
def oOpen (u v : Int32) (z : Nat → Int32) (gr : Nat → Nat) (sl bc : Nat) (bk : Nat → Nat → Int32) (kp : Nat → Bool) (im : Nat → Nat → Int32) : aS := cond (usB z u && inB v (nI 0) (nI (2 ^ cn z - 1))) (zSet z (cl u) 4 v, idN, 0, inc12 bc, push bk z, kp, im) (z, gr, sl, bc, bk, kp, im)
def rSet (u w v : Int32) (z : Nat → Int32) : Int32 := cond (usB z u) (cond (mhB w v) (z (3 + 5 * cl u + cl w)) (-1000000002)) (-1000000001)
def oSet (u w v : Int32) (z : Nat → Int32) (gr : Nat → Nat) (sl bc : Nat) (bk : Nat → Nat → Int32) (kp : Nat → Bool) (im : Nat → Nat → Int32) : aS := cond (usB z u && mhB w v) (zSet z (cl u) (cl w) v, idN, 0, inc12 bc, push bk z, kp, im) (z, gr, sl, bc, bk, kp, im)
def okShut (u ch : Int32) (z : Nat → Int32) : Bool := (decide (u = -1) || usB z u) && decide (0 ≤ ch ∧ ch < nI (cn z))
def okSpell (x y : Int32) : Bool := inB x (nI 0) (nI 1500) && inB y (nI 1) (nI 500)
def rShut (u ch x y : Int32) (z : Nat → Int32) : Int32 := cond (okShut u ch z) (cond (okSpell x y) (cond (decide (cs z < 8)) (nI (cs z + 1)) (-1000000004)) (-1000000002)) (-1000000001)
def oShut (u ch x y : Int32) (z : Nat → Int32) (gr : Nat → Nat) (sl bc : Nat) (bk : Nat → Nat → Int32) (kp : Nat → Bool) (im : Nat → Nat → Int32) : aS := cond (okShut u ch z && (okSpell x y && decide (cs z < 8))) (zSpell z u ch x y, idN, 0, inc12 bc, push bk z, kp, im) (z, gr, sl, bc, bk, kp, im)
def rDrift (x : Int32) (z : Nat → Int32) : Int32 := cond (inB x (nI 1) (nI 999999)) (cond (decide (cu z = 0)) (-1000000003) (nI (comN (zDrift z (cl x) (cu z)) (cu z)))) (-1000000002)
def oDrift (x : Int32) (z : Nat → Int32) (gr : Nat → Nat) (sl bc : Nat) (bk : Nat → Nat → Int32) (kp : Nat → Bool) (im : Nat → Nat → Int32) : aS := cond (inB x (nI 1) (nI 999999) && !decide (cu z = 0)) (zDrift z (cl x) (cu z), idN, 0, inc12 bc, push bk z, kp, im) (z, gr, sl, bc, bk, kp, im)
def rUndo (bc : Nat) : Int32 := cond (decide (bc = 0)) (-1000000003) (nI (bc - 1))
def oUndo (z : Nat → Int32) (gr : Nat → Nat) (sl bc : Nat) (bk : Nat → Nat → Int32) (kp : Nat → Bool) (im : Nat → Nat → Int32) : aS := cond (decide (bc = 0)) (z, gr, sl, bc, bk, kp, im) (bk 0, idN, 0, bc - 1, fun j => bk (j + 1), kp, im)
def rTold (w : Int32) (z : Nat → Int32) (gr : Nat → Nat) (sl bc : Nat) : Int32 := cond (inB w (nI 0) (nI 8)) (if cl w = 0 then nI (cn z) else if cl w = 1 then nI (prN (cn z)) else if cl w = 2 then nI (cu z) else if cl w = 3 then nI (cs z) else if cl w = 4 then nI (comN z (cu z)) else if cl w = 5 then nI sl else if cl w = 6 then nI (grN gr (cu z)) else if cl w = 7 then (if grN gr (cu z) = 1 then nI 1 else nI 0) else nI bc) (-1000000002)
def rUserOf (u w : Int32) (z : Nat → Int32) (gr : Nat → Nat) : Int32 := cond (usB z u) (cond (inB w (nI 0) (nI 6)) (if cl w = 5 then nI (gr (cl u)) else if cl w = 6 then nI (szN gr (cu z) (cl u)) else z (3 + 5 * cl u + cl w)) (-1000000002)) (-1000000001)
def rPts (u y : Int32) (z : Nat → Int32) : Int32 := cond (usB z u) (cond (inB y (nI 0) (nI 3000)) (if cl y < uW z (cl u) then -1 else nI (aimN z (cl u) (cl y - uW z (cl u)))) (-1000000002)) (-1000000001)
def rOn (u y : Int32) (z : Nat → Int32) : Int32 := cond (usB z u) (cond (inB y (nI 0) (nI 3000)) (plC z (cl u) (cl y)) (-1000000002)) (-1000000001)
def rWhy (u y : Int32) (z : Nat → Int32) : Int32 := cond (usB z u) (cond (inB y (nI 0) (nI 3000)) (whC z (cl u) (cl y)) (-1000000002)) (-1000000001)
def frN (z : Nat → Int32) (a b : Nat) : Int32 := if fi (meB z a b) 1500 < 1500 then nI (fi (meB z a b) 1500) else -1
def rFirst (u v : Int32) (z : Nat → Int32) : Int32 := cond (twB z u v) (frN z (cl u) (cl v)) (-1000000001)
def wsP (z : Nat → Int32) (a b x : Nat) : Nat → Bool := fun y => decide (plN z b y ≠ -1 ∧ plN z b y = plN z a (y + x))
def wsT (z : Nat → Int32) (a b x : Nat) : Nat := fi (wsP z a b x) 1500
def wsM (z : Nat → Int32) (a b x : Nat) : Nat := if wsT z a b x = 1500 then 99999 else wsT z a b x
def wsN (z : Nat → Int32) (a b : Nat) : Nat → Nat
  | 0 => 0
  | x + 1 => if wsN z a b x < wsM z a b x then wsM z a b x else wsN z a b x
theorem wsM_le (z : Nat → Int32) (a b x : Nat) : wsM z a b x ≤ 99999 := by
  have := fi_le (wsP z a b x) 1500
  unfold wsM wsT
  split <;> omega
theorem wsN_le (z : Nat → Int32) (a b : Nat) : ∀ x, wsN z a b x ≤ 99999
  | 0 => Nat.zero_le _
  | x + 1 => by
    have h1 := wsN_le z a b x
    have h2 := wsM_le z a b x
    unfold wsN
    split <;> omega
theorem wsN_top {z : Nat → Int32} {a b x : Nat} (h : 99999 ≤ wsN z a b x) : ∀ y, x ≤ y → wsN z a b y = 99999 := by
  intro y
  induction y with
  | zero => intro hy; have := wsN_le z a b x; rw [Nat.le_zero.mp hy] at h this; omega
  | succ y ih =>
    intro hy
    by_cases e : x = y + 1
    · have := wsN_le z a b x; rw [e] at h this; omega
    · have h1 := ih (by omega)
      have h2 := wsM_le z a b y
      rw [wsN, h1, if_neg (by omega)]
def rWorst (u v d : Int32) (z : Nat → Int32) : Int32 := cond (twB z u v) (cond (inB d (nI 0) (nI 200)) (nI (wsN z (cl u) (cl v) (cl d + 1))) (-1000000002)) (-1000000001)
def rBound (u v d x : Int32) (z : Nat → Int32) : Int32 := cond (twB z u v) (cond (inB d (nI 0) (nI 200) && inB x (nI 0) (nI 1500)) (if wsN z (cl u) (cl v) (cl d + 1) ≤ cl x then nI 1 else nI 0) (-1000000002)) (-1000000001)
def rTogether (u v n : Int32) (z : Nat → Int32) : Int32 := cond (twB z u v) (cond (inB n (nI 0) (nI 1500)) (nI (cntF (meB z (cl u) (cl v)) (cl n))) (-1000000002)) (-1000000001)
/-- how often a user is on a channel, by its clock -/
def tmN (z : Nat → Int32) (u n k : Nat) : Nat := cntF (fun c => decide (plN z u c = nI k)) n
def moN (z : Nat → Int32) (u n : Nat) : Nat → Nat
  | 0 => 0
  | k + 1 => if btB (uO z u) k = true ∧ moN z u n k < tmN z u n k then tmN z u n k else moN z u n k
def leN (z : Nat → Int32) (u n : Nat) : Nat → Nat
  | 0 => n
  | k + 1 => if btB (uO z u) k = true ∧ tmN z u n k < leN z u n k then tmN z u n k else leN z u n k
def rEven (u n : Int32) (z : Nat → Int32) : Int32 := cond (usB z u) (cond (inB n (nI 1) (nI 1500)) (if uO z (cl u) = 0 then nI 0 else nI (moN z (cl u) (cl n) (cn z)) - nI (leN z (cl u) (cl n) (cn z))) (-1000000002)) (-1000000001)
/-- slots that are run: what is left of n -/
def rnS (z : Nat → Int32) : Nat → (Nat → Nat) × Nat → (Nat → Nat) × Nat
  | 0, q => q
  | n + 1, q => if q.2 < 3000 then rnS z n (grS z q.1 q.2, q.2 + 1) else q
theorem rnS_full {z : Nat → Int32} {n : Nat} {q : (Nat → Nat) × Nat} (h : ¬ q.2 < 3000) : rnS z n q = q := by
  cases n with
  | zero => rfl
  | succ n => rw [rnS, if_neg h]
def rRun (n : Int32) (z : Nat → Int32) (gr : Nat → Nat) (sl : Nat) : Int32 := cond (inB n (nI 1) (nI 200)) (cond (decide (cu z = 0)) (-1000000003) (cond (decide (sl < 3000)) (nI (grN (rnS z (cl n) (gr, sl)).1 (cu z))) (-1000000004))) (-1000000002)
def oRun (n : Int32) (z : Nat → Int32) (gr : Nat → Nat) (sl bc : Nat) (bk : Nat → Nat → Int32) (kp : Nat → Bool) (im : Nat → Nat → Int32) : aS := cond (inB n (nI 1) (nI 200) && (!decide (cu z = 0) && decide (sl < 3000))) (z, (rnS z (cl n) (gr, sl)).1, (rnS z (cl n) (gr, sl)).2, bc, bk, kp, im) (z, gr, sl, bc, bk, kp, im)
def mgS (z : Nat → Int32) : Nat → (Nat → Nat) × Nat → (Nat → Nat) × Nat
  | 0, q => q
  | n + 1, q => if q.2 < 3000 ∧ 1 < grN q.1 (cu z) then mgS z n (grS z q.1 q.2, q.2 + 1) else q
theorem mgS_end {z : Nat → Int32} {n : Nat} {q : (Nat → Nat) × Nat} (h : ¬ (q.2 < 3000 ∧ 1 < grN q.1 (cu z))) : mgS z n q = q := by
  cases n with
  | zero => rfl
  | succ n => rw [mgS, if_neg h]
def rMerge (z : Nat → Int32) (gr : Nat → Nat) (sl : Nat) : Int32 := cond (decide (cu z = 0)) (-1000000003) (nI (mgS z 1500 (gr, sl)).2)
def oMerge (z : Nat → Int32) (gr : Nat → Nat) (sl bc : Nat) (bk : Nat → Nat → Int32) (kp : Nat → Bool) (im : Nat → Nat → Int32) : aS := cond (decide (cu z = 0)) (z, gr, sl, bc, bk, kp, im) (z, (mgS z 1500 (gr, sl)).1, (mgS z 1500 (gr, sl)).2, bc, bk, kp, im)
def rKeep (i : Int32) (z : Nat → Int32) : Int32 := cond (inB i (nI 0) (nI 1)) (nI (cu z)) (-1000000001)
def oKeep (i : Int32) (z : Nat → Int32) (gr : Nat → Nat) (sl bc : Nat) (bk : Nat → Nat → Int32) (kp : Nat → Bool) (im : Nat → Nat → Int32) : aS := cond (inB i (nI 0) (nI 1)) (z, gr, sl, bc, bk, va_up kp (cl i) true, va_up im (cl i) z) (z, gr, sl, bc, bk, kp, im)
def rGoBack (i : Int32) (kp : Nat → Bool) (im : Nat → Nat → Int32) : Int32 := cond (inB i (nI 0) (nI 1)) (cond (kp (cl i)) (nI (cu (im (cl i)))) (-1000000003)) (-1000000001)
def oGoBack (i : Int32) (z : Nat → Int32) (gr : Nat → Nat) (sl bc : Nat) (bk : Nat → Nat → Int32) (kp : Nat → Bool) (im : Nat → Nat → Int32) : aS := cond (inB i (nI 0) (nI 1) && kp (cl i)) (im (cl i), idN, 0, 0, bk, kp, im) (z, gr, sl, bc, bk, kp, im)
/-- what holds of every state that comes up -/
def SI : aS → Prop
  | (z, gr, sl, bc, bk, kp, im) => WF z ∧ (∀ u, gr u ≤ u) ∧ (∀ u, gr (gr u) = gr u) ∧ sl ≤ 3000 ∧ bc ≤ 12 ∧ (∀ j, j < bc → WF (bk j)) ∧ ∀ i, i < 2 → kp i = true → WF (im i)
/-- the picture of Past: a ring of twelve scenes -/
def Pa (G : va_G) (t : gT) (a bc : Nat) (bk : Nat → Nat → Int32) (H : Heap) : Prop := ∃ (nx : Nat) (zs : Nat → Nat → Int32), nx < 12 ∧ at_ G a (.inr (1, [.ref (a + 1), .int (nI nx), .int (nI bc)])) H ∧ at_ G (a + 1) (aQ t 12 (rowsG 12 (a + 2))) H ∧ (∀ i, i < 12 → Sc G t (a + 2 + 16 * i) (zs i) H) ∧ ∀ j, j < bc → zs ((nx + 11 - j) % 12) = bk j
theorem Pa_kept {G : va_G} {t : gT} {a bc : Nat} {bk : Nat → Nat → Int32} {H H1 : Heap} (h : Pa G t a bc bk H) (hk : ∀ q, a ≤ q → q < a + 194 → H1[q]? = H[q]?) : Pa G t a bc bk H1 := by
  obtain ⟨nx, zs, h1, h2, h3, h4, h5⟩ := h
  exact ⟨nx, zs, h1, at_kept h2 (hk _ (by omega) (by omega)), at_kept h3 (hk _ (by omega) (by omega)), fun i hi => Sc_kept (h4 i hi) (fun q q1 q2 => hk q (by omega) (by omega)), h5⟩
theorem Pa_lt {G : va_G} {t : gT} {a bc : Nat} {bk : Nat → Nat → Int32} {H : Heap} (h : Pa G t a bc bk H) : a + 194 ≤ H.size := by
  obtain ⟨nx, zs, h1, h2, h3, h4, h5⟩ := h
  have := Sc_lt (h4 11 (by decide))
  omega
theorem Pa_keptA {G : va_G} {t : gT} {a bc : Nat} {bk : Nat → Nat → Int32} {H H1 : Heap} {A : Nat → Prop} (h : Pa G t a bc bk H) (hk : ∀ q : Nat, q < H.size → ¬ A q → H1[q]? = H[q]?) (ha : ∀ q, a ≤ q → q < a + 194 → ¬ A q) : Pa G t a bc bk H1 := by
  have hz := Pa_lt h
  exact Pa_kept h (fun q h1 h2 => hk q (by omega) (ha q h1 h2))
theorem Pa_congr {G : va_G} {t : gT} {a bc : Nat} {bk bk2 : Nat → Nat → Int32} {H : Heap} (h : Pa G t a bc bk H) (e : ∀ j, j < bc → bk j = bk2 j) : Pa G t a bc bk2 H := by
  obtain ⟨nx, zs, h1, h2, h3, h4, h5⟩ := h
  exact ⟨nx, zs, h1, h2, h3, h4, fun j hj => (h5 j hj).trans (e j hj)⟩
theorem Pa_obj {G : va_G} {t : gT} {a bc : Nat} {bk : Nat → Nat → Int32} {H : Heap} (h : Pa G t a bc bk H) : ∃ nx, at_ G a (.inr (1, [.ref (a + 1), .int (nI nx), .int (nI bc)])) H := by
  obtain ⟨nx, zs, h1, h2, h3, h4, h5⟩ := h
  exact ⟨nx, h2⟩
theorem ring_push {bc nx : Nat} {zs bk : Nat → Nat → Int32} {z : Nat → Int32} (hn : nx < 12) (h : ∀ j, j < bc → zs ((nx + 11 - j) % 12) = bk j) : ∀ j, j < inc12 bc → va_up zs nx z (((nx + 1) % 12 + 11 - j) % 12) = push bk z j := fun j hj => by
  have h1 : j < 12 ∧ j ≤ bc := by
    unfold inc12 at hj
    split at hj <;> omega
  unfold push
  by_cases e : j = 0
  · subst e
    rw [if_pos rfl, show ((nx + 1) % 12 + 11 - 0) % 12 = nx by omega, va_up_self]
  · rw [if_neg e, show ((nx + 1) % 12 + 11 - j) % 12 = (nx + 11 - (j - 1)) % 12 by omega, va_up_ne _ _ (by omega)]
    exact h (j - 1) (by omega)
theorem ring_pop {bc nx : Nat} {zs bk : Nat → Nat → Int32} (hn : nx < 12) (hb : bc ≤ 12) (h : ∀ j, j < bc → zs ((nx + 11 - j) % 12) = bk j) : ∀ j, j < bc - 1 → zs (((nx + 11) % 12 + 11 - j) % 12) = bk (j + 1) := fun j hj => by
  rw [show ((nx + 11) % 12 + 11 - j) % 12 = (nx + 11 - (j + 1)) % 12 by omega]
  exact h (j + 1) (by omega)
theorem scs_put {G : va_G} {t : gT} {b c : Nat} {zs : Nat → Nat → Int32} {z : Nat → Int32} {N : Nat} {H : Heap} (hr : Sc G t (b + 16 * c) z H) (h : ∀ i, i < N → i ≠ c → Sc G t (b + 16 * i) (zs i) H) : ∀ i, i < N → Sc G t (b + 16 * i) (va_up zs c z i) H := fun i hi => by
  by_cases e : i = c
  · rw [e, va_up_self]; exact hr
  · rw [va_up_ne _ _ e]; exact h i hi e
/-- the picture of a HopMeet: 251 cells, from its own on -/
def PX (G : va_G) (t : gT) (b : Nat) : aS → Heap → Prop
  | (z, gr, sl, bc, bk, kp, im), H => at_ G b (.inr (3, [.ref (b + 1), .ref (b + 17), .ref (b + 211), .ref (b + 244), .ref (b + 245), .ref (b + 248), .ref (b + 249), .ref (b + 250)])) H ∧ Sc G t (b + 1) z H ∧ Pa G t (b + 17) bc bk H ∧
    (at_ G (b + 211) (aQ t 2 (rowsG 2 (b + 212))) H ∧ ∃ jm : Nat → Nat → Int32, (∀ i, i < 2 → Sc G t (b + 212 + 16 * i) (jm i) H) ∧ ∀ i, i < 2 → kp i = true → jm i = im i) ∧
    at_ G (b + 244) (aZ t 2 (fun i => bI (kp i))) H ∧ Gp G t (b + 245) gr sl (cu z) H ∧ (∃ f, at_ G (b + 248) (aI t 1700 f) H) ∧ (∃ f, at_ G (b + 249) (aI t 1500 f) H) ∧ ∃ f, at_ G (b + 250) (aI t 10 f) H
theorem Sy_obj {G : va_G} {t : gT} {o : Nat} {H : Heap} (h : Sy G t o H) : ∃ a0 a1 a2 a3 : Int32, at_ G o (.inr (2, [.int a0, .int a1, .int a2, .int a3, .ref (o + 1), .ref (o + 7)])) H := by
  obtain ⟨a, b, c, d, fU, fS, h0, -⟩ := h
  exact ⟨a, b, c, d, h0⟩
theorem Sy_kept {G : va_G} {t : gT} {o : Nat} {H H1 : Heap} (h : Sy G t o H) (hk : ∀ q, o ≤ q → q < o + 16 → H1[q]? = H[q]?) : Sy G t o H1 := by
  obtain ⟨a, b, c, d, fU, fS, h0, h1, h2, h3, h4⟩ := h
  exact ⟨a, b, c, d, fU, fS, at_kept h0 (hk _ (by omega) (by omega)), at_kept h1 (hk _ (by omega) (by omega)), fun i hi => at_kept (h2 i hi) (hk _ (by omega) (by omega)), at_kept h3 (hk _ (by omega) (by omega)), fun i hi => at_kept (h4 i hi) (hk _ (by omega) (by omega))⟩
theorem min_inc {bc : Nat} (h : bc ≤ 12) : (if nI 12 < nI (bc + 1) then nI 12 else nI (bc + 1)) = nI (inc12 bc) := by
  unfold inc12
  by_cases q : bc + 1 < 12
  · rw [if_pos q, if_neg (fun r => by have := (nI_ltI (by decide) (by omega)).mp r; omega)]
  · rw [if_neg q]
    by_cases r : bc + 1 = 12
    · rw [r]; rfl
    · rw [if_pos ((nI_ltI (by decide) (by omega)).mpr (by omega))]
end
section
/-! Past (printed by wip/whole/m5.py) -/
set_option maxRecDepth 20000 in
theorem iiX1_forget_1 : ∀ w ∈ wsX10, w ∈ wsX1_forget := by decide +kernel
set_option maxHeartbeats 4000000 in
set_option maxRecDepth 100000 in
/-- nothing can be undone -/
theorem c_X1_forget (l : Launch) (G : va_G) (t : gT) (a bc : Nat) (bk : Nat → Nat → Int32) : Met l yX1_forget wsX1_forget ({ frames := 0, cells := 0, slots := 0, locals := 0 } : Room) (pc_ [.ref a] (fun U H => KK G t U ∧ Pa G t a bc bk H)) (qv_ (fun H => ∀ bk2, Pa G t a 0 bk2 H) (iv a (a + 194))) 0 0 (iv a (a + 194)) := by
  refine Met.ofW (cc := cX1_forget) (maxL := 1) (ret := none) (by decide) rfl ?_
  intro p e s m args below meth c s₁ B hml hv
  obtain ⟨rfl, hB⟩ := hv
  have hx := B.exec
  have hb := B.bytes
  have hr := B.returns
  have hts := atoms_spec (ws := wsX1_forget) B.pre
  have hown : s.vm.findClass RX1 = some m.cls := findClass_of_methodNamed B.named
  have hlocks := B.notSynchronized
  have hK := hB.1
  obtain ⟨nx, zs, hnx, h0, h1, h2, h3⟩ := hB.2
  have hS : va_S (iv a (a + 194)) s.heap s.heap [] := va_S.rf
  have hl := lv_entry ([.ref a]) (n := 1) (Nat.le_of_ble_eq_true rfl)
  rw [lg_entry_eq]
  generalize (lg_sl ([.ref a]) ++ List.replicate (1 - (lg_sl ([.ref a])).length) Slot.unset).toArray = ls at hl ⊢
  have hl : lv_has ls 1 [(0, .ref a)] := hl
  refine lv_aload_n hx hb dX1_forget_0 rfl (lv_at hl 0 rfl) ?_
  refine lv_iconst (v := nI 0) hx hb dX1_forget_1 (by decide) ?_
  refine r_put (ty := .int) (ci := 1) (C := RX1) (T := TX1) (N := 3) (fs' := [.ref (a + 1), .int (nI 0), .int (nI bc)]) hx hb hts iiX1_forget_1 tyX1 tyX1_ok nmX1 hown hK h0 ⟨by omega, by omega⟩ hS rfl 1 (by decide) (hts (.fieldLink RX1 18 "HopMeet$Past" "next" "I") (List.mem_of_getElem? (i := 1) rfl)) rfl (by decide +kernel) rfl rfl (Nat.le_of_ble_eq_true rfl) rfl dX1_forget_2 (fun H locs h0 hz9 hq hS => ?_)
  have h1 := at_kept h1 (hq _ (by omega))
  have h2 := fun i hi => Sc_kept (h2 i hi) (fun q h8 h9 => hq q (by omega))
  refine lv_aload_n hx hb dX1_forget_5 rfl (lv_at hl 0 rfl) ?_
  refine lv_iconst (v := nI 0) hx hb dX1_forget_6 (by decide) ?_
  refine r_put (ty := .int) (ci := 1) (C := RX1) (T := TX1) (N := 3) (fs' := [.ref (a + 1), .int (nI 0), .int (nI 0)]) hx hb hts iiX1_forget_1 tyX1 tyX1_ok nmX1 hown hK h0 ⟨by omega, by omega⟩ hS rfl 2 (by decide) (hts (.fieldLink RX1 22 "HopMeet$Past" "count" "I") (List.mem_of_getElem? (i := 2) rfl)) rfl (by decide +kernel) rfl rfl (Nat.le_of_ble_eq_true rfl) rfl dX1_forget_7 (fun H locs h0 hz9 hq hS => ?_)
  have h1 := at_kept h1 (hq _ (by omega))
  have h2 := fun i hi => Sc_kept (h2 i hi) (fun q h8 h9 => hq q (by omega))
  exact r_retV hx hb hr hlocks hS (fun bk2 => ⟨0, zs, by decide, h0, h1, h2, fun j hj => absurd hj (Nat.not_lt_zero _)⟩) dX1_forget_10

set_option maxRecDepth 20000 in
theorem iiX1_remember_1 : ∀ w ∈ wsX10, w ∈ wsX1_remember := by decide +kernel
set_option maxRecDepth 20000 in
theorem iiX1_remember_2 : ∀ w ∈ wsX20, w ∈ wsX1_remember := by decide +kernel
set_option maxHeartbeats 4000000 in
set_option maxRecDepth 100000 in
/-- a scene is kept, to be brought back -/
theorem c_X1_remember (l : Launch) (G : va_G) (t : gT) (a bc : Nat) (bk : Nat → Nat → Int32) (o : Nat) (z : Nat → Int32) (hz : WF z) (hbc : bc ≤ 12) (hsep : o + 16 ≤ a ∨ a + 194 ≤ o) : Met l yX1_remember wsX1_remember ({ frames := 2, cells := 0, slots := 0, locals := 52 } : Room) (pc_ [.ref a, .ref o] (fun U H => KK G t U ∧ (Pa G t a bc bk H ∧ Sc G t o z H))) (qv_ (fun H => Pa G t a (inc12 bc) (push bk z) H) (iv a (a + 194))) 0 0 (iv a (a + 194)) := by
  refine Met.ofW (cc := cX1_remember) (maxL := 2) (ret := none) (by decide) rfl ?_
  intro p e s m args below meth c s₁ B hml hv
  obtain ⟨rfl, hB⟩ := hv
  have hx := B.exec
  have hb := B.bytes
  have hr := B.returns
  have hts := atoms_spec (ws := wsX1_remember) B.pre
  have hown : s.vm.findClass RX1 = some m.cls := findClass_of_methodNamed B.named
  have hlocks := B.notSynchronized
  have hK := hB.1
  have hSc := hB.2.2
  obtain ⟨nx, zs, hnx, h0, h1, h2, h3⟩ := hB.2.1
  have hS : va_S (iv a (a + 194)) s.heap s.heap [] := va_S.rf
  have hl := lv_entry ([.ref a, .ref o]) (n := 2) (Nat.le_of_ble_eq_true rfl)
  rw [lg_entry_eq]
  generalize (lg_sl ([.ref a, .ref o]) ++ List.replicate (2 - (lg_sl ([.ref a, .ref o])).length) Slot.unset).toArray = ls at hl ⊢
  have hl : lv_has ls 2 [(0, .ref a), (1, .ref o)] := hl
  refine lv_aload_n hx hb dX1_remember_0 rfl (lv_at hl 0 rfl) ?_
  refine r_get (C := RX1) (T := TX1) (N := 3) hx hb hts iiX1_remember_1 hown hK h0 rfl 0 (by decide) (hts (.fieldLink RX1 11 "HopMeet$Past" "scenes" "[LHopMeet$Scene;") (List.mem_of_getElem? (i := 1) rfl)) rfl dX1_remember_1 ?_
  refine lv_aload_n hx hb dX1_remember_4 rfl (lv_at hl 0 rfl) ?_
  refine r_get (C := RX1) (T := TX1) (N := 3) hx hb hts iiX1_remember_1 hown hK h0 rfl 1 (by decide) (hts (.fieldLink RX1 18 "HopMeet$Past" "next" "I") (List.mem_of_getElem? (i := 2) rfl)) rfl dX1_remember_5 ?_
  refine r_rald hx hb hK h1 3 rfl rfl nx (by omega) (by decide) (b := a + 2 + 16 * nx) (rowsG_at (by omega)) dX1_remember_8 ?_
  refine lv_aload_n hx hb dX1_remember_9 rfl (lv_at hl 1 rfl) ?_
  refine r_mV (av := [.ref o]) (c_X2_become l G t (a + 2 + 16 * nx) o z hz (by omega)) ⟨hx, hb, hml, hown, hts⟩ (cwV 1 hts gX1_remember_X2_become rfl rfl rfl (by decide +kernel) ⟨Nat.le_of_ble_eq_true rfl, Nat.le_of_ble_eq_true rfl⟩) mv_K ⟨hK, Sc_Sy (h2 nx hnx), hSc⟩ (at_recv hK (Sc_obj (h2 nx hnx)) rfl) rfl hl (Nat.le_of_ble_eq_true rfl) ⟨Nat.le_of_ble_eq_true rfl, Nat.le_of_ble_eq_true rfl⟩ rfl dX1_remember_10 hS (iv_sub (by omega) (by omega)) (fun H locs hP hz9 hk hS => ?_)
  have h0 := at_keptA h0 hk (iv_no (by omega))
  have h1 := at_keptA h1 hk (iv_no (by omega))
  have h2 := scs_put hP (fun i hi hne => Sc_keptA (h2 i hi) hk (fun q h8 h9 => iv_no (by omega)))
  have hSc := Sc_keptA hSc hk (fun q h8 h9 => iv_no (by omega))
  refine lv_aload_n hx hb dX1_remember_13 rfl (lv_at hl 0 rfl) ?_
  refine lv_aload_n hx hb dX1_remember_14 rfl (lv_at hl 0 rfl) ?_
  refine r_get (C := RX1) (T := TX1) (N := 3) hx hb hts iiX1_remember_1 hown hK h0 rfl 1 (by decide) (hts (.fieldLink RX1 18 "HopMeet$Past" "next" "I") (List.mem_of_getElem? (i := 2) rfl)) rfl dX1_remember_15 ?_
  refine lv_iconst (v := nI 1) hx hb dX1_remember_18 (by decide) ?_
  refine r_iaddN hx hb dX1_remember_19 ?_
  refine lv_bipush (v := nI 12) hx hb dX1_remember_20 (by decide) ?_
  refine r_iremN hx hb (by omega) (by omega) (by omega) dX1_remember_22 ?_
  refine r_put (ty := .int) (ci := 1) (C := RX1) (T := TX1) (N := 3) (fs' := [.ref (a + 1), .int (nI ((nx + 1) % 12)), .int (nI bc)]) hx hb hts iiX1_remember_1 tyX1 tyX1_ok nmX1 hown hK h0 ⟨by omega, by omega⟩ hS rfl 1 (by decide) (hts (.fieldLink RX1 18 "HopMeet$Past" "next" "I") (List.mem_of_getElem? (i := 2) rfl)) rfl (by decide +kernel) rfl rfl (Nat.le_of_ble_eq_true rfl) rfl dX1_remember_23 (fun H locs h0 hz9 hq hS => ?_)
  have h1 := at_kept h1 (hq _ (by omega))
  have h2 := fun i hi => Sc_kept (h2 i hi) (fun q h8 h9 => hq q (by omega))
  have hSc := Sc_kept hSc (fun q h8 h9 => hq q (by omega))
  refine lv_aload_n hx hb dX1_remember_26 rfl (lv_at hl 0 rfl) ?_
  refine lv_aload_n hx hb dX1_remember_27 rfl (lv_at hl 0 rfl) ?_
  refine r_get (C := RX1) (T := TX1) (N := 3) hx hb hts iiX1_remember_1 hown hK h0 rfl 2 (by decide) (hts (.fieldLink RX1 22 "HopMeet$Past" "count" "I") (List.mem_of_getElem? (i := 3) rfl)) rfl dX1_remember_28 ?_
  refine lv_iconst (v := nI 1) hx hb dX1_remember_31 (by decide) ?_
  refine r_iaddN hx hb dX1_remember_32 ?_
  refine lv_bipush (v := nI 12) hx hb dX1_remember_33 (by decide) ?_
  refine va_mmin hx hb (by rw [hml]; exact hl.1.symm) hown (hts (.methodLink RX1 29 Lib.Math.min.name) (List.mem_of_getElem? (i := 4) rfl)) (hts (.static Lib.Math.min.name) (List.mem_of_getElem? (i := 5) rfl)) (hts (.initialized "java/lang/Math") (List.mem_of_getElem? (i := 6) rfl)) (hts (.code Lib.Math.min.name Lib.Math.min.code 2 (some .int)) (List.mem_of_getElem? (i := 7) rfl)) (Nat.le_of_ble_eq_true rfl) (Nat.le_of_ble_eq_true rfl) (Nat.le_of_ble_eq_true rfl) (Nat.le_of_ble_eq_true rfl) dX1_remember_35 ?_
  refine r_top (y := nI (inc12 bc)) (min_inc hbc) ?_
  refine r_put (ty := .int) (ci := 1) (C := RX1) (T := TX1) (N := 3) (fs' := [.ref (a + 1), .int (nI ((nx + 1) % 12)), .int (nI (inc12 bc))]) hx hb hts iiX1_remember_1 tyX1 tyX1_ok nmX1 hown hK h0 ⟨by omega, by omega⟩ hS rfl 2 (by decide) (hts (.fieldLink RX1 22 "HopMeet$Past" "count" "I") (List.mem_of_getElem? (i := 3) rfl)) rfl (by decide +kernel) rfl rfl (Nat.le_of_ble_eq_true rfl) rfl dX1_remember_38 (fun H locs h0 hz9 hq hS => ?_)
  have h1 := at_kept h1 (hq _ (by omega))
  have h2 := fun i hi => Sc_kept (h2 i hi) (fun q h8 h9 => hq q (by omega))
  have hSc := Sc_kept hSc (fun q h8 h9 => hq q (by omega))
  exact r_retV hx hb hr hlocks hS ⟨(nx + 1) % 12, va_up zs nx z, by omega, h0, h1, h2, ring_push hnx h3⟩ dX1_remember_41

set_option maxRecDepth 20000 in
theorem iiX1_restore_1 : ∀ w ∈ wsX10, w ∈ wsX1_restore := by decide +kernel
set_option maxRecDepth 20000 in
theorem iiX1_restore_2 : ∀ w ∈ wsX20, w ∈ wsX1_restore := by decide +kernel
set_option maxHeartbeats 4000000 in
set_option maxRecDepth 100000 in
/-- the latest scene is brought back -/
theorem c_X1_restore (l : Launch) (G : va_G) (t : gT) (a bc : Nat) (bk : Nat → Nat → Int32) (o : Nat) (hb0 : 0 < bc) (hbc : bc ≤ 12) (hw : WF (bk 0)) (hsep : o + 16 ≤ a) : Met l yX1_restore wsX1_restore ({ frames := 2, cells := 0, slots := 0, locals := 52 } : Room) (pc_ [.ref a, .ref o] (fun U H => KK G t U ∧ (Pa G t a bc bk H ∧ Sy G t o H))) (qv_ (fun H => Sc G t o (bk 0) H ∧ Pa G t a (bc - 1) (fun j => bk (j + 1)) H) (iv o (a + 194))) 0 0 (iv o (a + 194)) := by
  refine Met.ofW (cc := cX1_restore) (maxL := 2) (ret := none) (by decide) rfl ?_
  intro p e s m args below meth c s₁ B hml hv
  obtain ⟨rfl, hB⟩ := hv
  have hx := B.exec
  have hb := B.bytes
  have hr := B.returns
  have hts := atoms_spec (ws := wsX1_restore) B.pre
  have hown : s.vm.findClass RX1 = some m.cls := findClass_of_methodNamed B.named
  have hlocks := B.notSynchronized
  have hK := hB.1
  have hSy := hB.2.2
  obtain ⟨nx, zs, hnx, h0, h1, h2, h3⟩ := hB.2.1
  obtain ⟨q0, q1, q2, q3, hs0⟩ := Sy_obj hSy
  have hz0 : zs ((nx + 11) % 12) = bk 0 := h3 0 hb0
  have hzw : WF (zs ((nx + 11) % 12)) := by rw [hz0]; exact hw
  have hS : va_S (iv o (a + 194)) s.heap s.heap [] := va_S.rf
  have hl := lv_entry ([.ref a, .ref o]) (n := 2) (Nat.le_of_ble_eq_true rfl)
  rw [lg_entry_eq]
  generalize (lg_sl ([.ref a, .ref o]) ++ List.replicate (2 - (lg_sl ([.ref a, .ref o])).length) Slot.unset).toArray = ls at hl ⊢
  have hl : lv_has ls 2 [(0, .ref a), (1, .ref o)] := hl
  refine lv_aload_n hx hb dX1_restore_0 rfl (lv_at hl 0 rfl) ?_
  refine lv_aload_n hx hb dX1_restore_1 rfl (lv_at hl 0 rfl) ?_
  refine r_get (C := RX1) (T := TX1) (N := 3) hx hb hts iiX1_restore_1 hown hK h0 rfl 1 (by decide) (hts (.fieldLink RX1 18 "HopMeet$Past" "next" "I") (List.mem_of_getElem? (i := 1) rfl)) rfl dX1_restore_2 ?_
  refine lv_bipush (v := nI 12) hx hb dX1_restore_5 (by decide) ?_
  refine r_iaddN hx hb dX1_restore_7 ?_
  refine lv_iconst (v := nI 1) hx hb dX1_restore_8 (by decide) ?_
  refine r_isubN hx hb (by omega) dX1_restore_9 ?_
  refine lv_bipush (v := nI 12) hx hb dX1_restore_10 (by decide) ?_
  refine r_iremN hx hb (by omega) (by omega) (by omega) dX1_restore_12 ?_
  refine r_top (y := nI ((nx + 11) % 12)) (congrArg nI (by omega)) ?_
  refine r_put (ty := .int) (ci := 1) (C := RX1) (T := TX1) (N := 3) (fs' := [.ref (a + 1), .int (nI ((nx + 11) % 12)), .int (nI bc)]) hx hb hts iiX1_restore_1 tyX1 tyX1_ok nmX1 hown hK h0 ⟨by omega, by omega⟩ hS rfl 1 (by decide) (hts (.fieldLink RX1 18 "HopMeet$Past" "next" "I") (List.mem_of_getElem? (i := 1) rfl)) rfl (by decide +kernel) rfl rfl (Nat.le_of_ble_eq_true rfl) rfl dX1_restore_13 (fun H locs h0 hz9 hq hS => ?_)
  have h1 := at_kept h1 (hq _ (by omega))
  have hs0 := at_kept hs0 (hq _ (by omega))
  have h2 := fun i hi => Sc_kept (h2 i hi) (fun q h8 h9 => hq q (by omega))
  have hSy := Sy_kept hSy (fun q h8 h9 => hq q (by omega))
  refine lv_aload_n hx hb dX1_restore_16 rfl (lv_at hl 1 rfl) ?_
  refine lv_aload_n hx hb dX1_restore_17 rfl (lv_at hl 0 rfl) ?_
  refine r_get (C := RX1) (T := TX1) (N := 3) hx hb hts iiX1_restore_1 hown hK h0 rfl 0 (by decide) (hts (.fieldLink RX1 11 "HopMeet$Past" "scenes" "[LHopMeet$Scene;") (List.mem_of_getElem? (i := 2) rfl)) rfl dX1_restore_18 ?_
  refine lv_aload_n hx hb dX1_restore_21 rfl (lv_at hl 0 rfl) ?_
  refine r_get (C := RX1) (T := TX1) (N := 3) hx hb hts iiX1_restore_1 hown hK h0 rfl 1 (by decide) (hts (.fieldLink RX1 18 "HopMeet$Past" "next" "I") (List.mem_of_getElem? (i := 1) rfl)) rfl dX1_restore_22 ?_
  refine r_rald hx hb hK h1 3 rfl rfl ((nx + 11) % 12) (by omega) (by decide) (b := a + 2 + 16 * ((nx + 11) % 12)) (rowsG_at (by omega)) dX1_restore_25 ?_
  refine r_mV (av := [.ref (a + 2 + 16 * ((nx + 11) % 12))]) (c_X2_become l G t o (a + 2 + 16 * ((nx + 11) % 12)) (zs ((nx + 11) % 12)) hzw (by omega)) ⟨hx, hb, hml, hown, hts⟩ (cwV 1 hts gX1_restore_X2_become rfl rfl rfl (by decide +kernel) ⟨Nat.le_of_ble_eq_true rfl, Nat.le_of_ble_eq_true rfl⟩) mv_K ⟨hK, hSy, h2 _ (by omega)⟩ (at_recv hK hs0 rfl) rfl hl (Nat.le_of_ble_eq_true rfl) ⟨Nat.le_of_ble_eq_true rfl, Nat.le_of_ble_eq_true rfl⟩ rfl dX1_restore_26 hS (iv_sub (by omega) (by omega)) (fun H locs hP hz9 hk hS => ?_)
  have h0 := at_keptA h0 hk (iv_no (by omega))
  have h1 := at_keptA h1 hk (iv_no (by omega))
  have h2 := fun i hi => Sc_keptA (h2 i hi) hk (fun q h8 h9 => iv_no (by omega))
  refine lv_aload_n hx hb dX1_restore_29 rfl (lv_at hl 0 rfl) ?_
  refine lv_dup hx hb dX1_restore_30 rfl ?_
  refine r_get (C := RX1) (T := TX1) (N := 3) hx hb hts iiX1_restore_1 hown hK h0 rfl 2 (by decide) (hts (.fieldLink RX1 22 "HopMeet$Past" "count" "I") (List.mem_of_getElem? (i := 3) rfl)) rfl dX1_restore_31 ?_
  refine lv_iconst (v := nI 1) hx hb dX1_restore_34 (by decide) ?_
  refine r_isubN hx hb hb0 dX1_restore_35 ?_
  refine r_put (ty := .int) (ci := 1) (C := RX1) (T := TX1) (N := 3) (fs' := [.ref (a + 1), .int (nI ((nx + 11) % 12)), .int (nI (bc - 1))]) hx hb hts iiX1_restore_1 tyX1 tyX1_ok nmX1 hown hK h0 ⟨by omega, by omega⟩ hS rfl 2 (by decide) (hts (.fieldLink RX1 22 "HopMeet$Past" "count" "I") (List.mem_of_getElem? (i := 3) rfl)) rfl (by decide +kernel) rfl rfl (Nat.le_of_ble_eq_true rfl) rfl dX1_restore_36 (fun H locs h0 hz9 hq hS => ?_)
  have h1 := at_kept h1 (hq _ (by omega))
  have h2 := fun i hi => Sc_kept (h2 i hi) (fun q h8 h9 => hq q (by omega))
  have hP := Sc_kept hP (fun q h8 h9 => hq q (by omega))
  exact r_retV hx hb hr hlocks hS ⟨by rw [← hz0]; exact hP, (nx + 11) % 12, zs, by omega, h0, h1, h2, ring_pop hnx hbc h3⟩ dX1_restore_39
end
