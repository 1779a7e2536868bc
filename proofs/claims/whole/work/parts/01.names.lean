-- ===== PART A: goes FIRST, ahead of the names: the tables' words, and 'selects' of the private methods out of them =====
/-- a private method of a class that the tables say can be made, by its rows of tables_1 -/
def lw_okq (q : MethodName × Nat) : Prop := (q.1.cls ≠ "java/lang/invoke/MethodHandle" ∧ q.1.cls ≠ "java/lang/invoke/VarHandle") ∧ Cond.instantiable q.1.cls q.2 ∈ tables_1 ∧ Cond.privateMethod q.1 ∈ tables_1 ∧ Cond.instanceMethod q.1 ∈ tables_1
theorem lw_p0 : lw_okq (⟨"HopMeet", "isUser", "(I)Z"⟩, 8) := ⟨⟨by decide +kernel, by decide +kernel⟩, List.mem_of_getElem? (i := 10) (by decide +kernel), List.mem_of_getElem? (i := 178) (by decide +kernel), List.mem_of_getElem? (i := 179) (by decide +kernel)⟩
theorem lw_p1 : lw_okq (⟨"HopMeet", "change", "(III)I"⟩, 8) := ⟨⟨by decide +kernel, by decide +kernel⟩, List.mem_of_getElem? (i := 10) (by decide +kernel), List.mem_of_getElem? (i := 184) (by decide +kernel), List.mem_of_getElem? (i := 185) (by decide +kernel)⟩
theorem lw_p2 : lw_okq (⟨"HopMeet$Scene", "aimOfJumpAndStay", "(III)I"⟩, 6) := ⟨⟨by decide +kernel, by decide +kernel⟩, List.mem_of_getElem? (i := 18) (by decide +kernel), List.mem_of_getElem? (i := 261) (by decide +kernel), List.mem_of_getElem? (i := 262) (by decide +kernel)⟩
theorem lw_p3 : lw_okq (⟨"HopMeet$Scene", "isShut", "(III)Z"⟩, 6) := ⟨⟨by decide +kernel, by decide +kernel⟩, List.mem_of_getElem? (i := 18) (by decide +kernel), List.mem_of_getElem? (i := 294) (by decide +kernel), List.mem_of_getElem? (i := 295) (by decide +kernel)⟩
theorem lw_p4 : lw_okq (⟨"HopMeet", "areTwoUsers", "(II)Z"⟩, 8) := ⟨⟨by decide +kernel, by decide +kernel⟩, List.mem_of_getElem? (i := 10) (by decide +kernel), List.mem_of_getElem? (i := 310) (by decide +kernel), List.mem_of_getElem? (i := 311) (by decide +kernel)⟩
theorem lw_p5 : lw_okq (⟨"HopMeet", "worstOfShifts", "(III)I"⟩, 8) := ⟨⟨by decide +kernel, by decide +kernel⟩, List.mem_of_getElem? (i := 10) (by decide +kernel), List.mem_of_getElem? (i := 326) (by decide +kernel), List.mem_of_getElem? (i := 327) (by decide +kernel)⟩
theorem lw_p6 : lw_okq (⟨"HopMeet", "slotsToMeet", "(I)I"⟩, 8) := ⟨⟨by decide +kernel, by decide +kernel⟩, List.mem_of_getElem? (i := 10) (by decide +kernel), List.mem_of_getElem? (i := 332) (by decide +kernel), List.mem_of_getElem? (i := 333) (by decide +kernel)⟩
theorem lw_p7 : lw_okq (⟨"HopMeet", "countTimesOn", "(II)V"⟩, 8) := ⟨⟨by decide +kernel, by decide +kernel⟩, List.mem_of_getElem? (i := 10) (by decide +kernel), List.mem_of_getElem? (i := 351) (by decide +kernel), List.mem_of_getElem? (i := 352) (by decide +kernel)⟩
theorem lw_p8 : lw_okq (⟨"HopMeet$Groups", "settle", "(II)V"⟩, 4) := ⟨⟨by decide +kernel, by decide +kernel⟩, List.mem_of_getElem? (i := 81) (by decide +kernel), List.mem_of_getElem? (i := 366) (by decide +kernel), List.mem_of_getElem? (i := 367) (by decide +kernel)⟩
theorem lw_p9 : lw_okq (⟨"HopMeet$Groups", "join", "(II)V"⟩, 4) := ⟨⟨by decide +kernel, by decide +kernel⟩, List.mem_of_getElem? (i := 81) (by decide +kernel), List.mem_of_getElem? (i := 370) (by decide +kernel), List.mem_of_getElem? (i := 371) (by decide +kernel)⟩
theorem lw_p10 : lw_okq (⟨"HopMeetModel", "layPrime", "()V"⟩, 10) := ⟨⟨by decide +kernel, by decide +kernel⟩, List.mem_of_getElem? (i := 394) (by decide +kernel), List.mem_of_getElem? (i := 400) (by decide +kernel), List.mem_of_getElem? (i := 401) (by decide +kernel)⟩
theorem lw_p11 : lw_okq (⟨"HopMeetModel", "anew", "()V"⟩, 10) := ⟨⟨by decide +kernel, by decide +kernel⟩, List.mem_of_getElem? (i := 394) (by decide +kernel), List.mem_of_getElem? (i := 407) (by decide +kernel), List.mem_of_getElem? (i := 408) (by decide +kernel)⟩
theorem lw_p12 : lw_okq (⟨"HopMeetModel", "note", "()V"⟩, 10) := ⟨⟨by decide +kernel, by decide +kernel⟩, List.mem_of_getElem? (i := 394) (by decide +kernel), List.mem_of_getElem? (i := 458) (by decide +kernel), List.mem_of_getElem? (i := 459) (by decide +kernel)⟩
theorem lw_p13 : lw_okq (⟨"HopMeetModel", "all", "()I"⟩, 10) := ⟨⟨by decide +kernel, by decide +kernel⟩, List.mem_of_getElem? (i := 394) (by decide +kernel), List.mem_of_getElem? (i := 465) (by decide +kernel), List.mem_of_getElem? (i := 466) (by decide +kernel)⟩
theorem lw_p14 : lw_okq (⟨"HopMeetModel", "isUser", "(I)Z"⟩, 10) := ⟨⟨by decide +kernel, by decide +kernel⟩, List.mem_of_getElem? (i := 394) (by decide +kernel), List.mem_of_getElem? (i := 473) (by decide +kernel), List.mem_of_getElem? (i := 474) (by decide +kernel)⟩
theorem lw_p15 : lw_okq (⟨"HopMeetModel", "becomes", "(III)I"⟩, 10) := ⟨⟨by decide +kernel, by decide +kernel⟩, List.mem_of_getElem? (i := 394) (by decide +kernel), List.mem_of_getElem? (i := 478) (by decide +kernel), List.mem_of_getElem? (i := 479) (by decide +kernel)⟩
def lw_privs_1 : List (MethodName × Nat) := [(⟨"HopMeet", "isUser", "(I)Z"⟩, 8), (⟨"HopMeet", "change", "(III)I"⟩, 8), (⟨"HopMeet$Scene", "aimOfJumpAndStay", "(III)I"⟩, 6), (⟨"HopMeet$Scene", "isShut", "(III)Z"⟩, 6), (⟨"HopMeet", "areTwoUsers", "(II)Z"⟩, 8), (⟨"HopMeet", "worstOfShifts", "(III)I"⟩, 8), (⟨"HopMeet", "slotsToMeet", "(I)I"⟩, 8), (⟨"HopMeet", "countTimesOn", "(II)V"⟩, 8), (⟨"HopMeet$Groups", "settle", "(II)V"⟩, 4), (⟨"HopMeet$Groups", "join", "(II)V"⟩, 4), (⟨"HopMeetModel", "layPrime", "()V"⟩, 10), (⟨"HopMeetModel", "anew", "()V"⟩, 10), (⟨"HopMeetModel", "note", "()V"⟩, 10), (⟨"HopMeetModel", "all", "()I"⟩, 10), (⟨"HopMeetModel", "isUser", "(I)Z"⟩, 10), (⟨"HopMeetModel", "becomes", "(III)I"⟩, 10)]
theorem lw_r1 : ∀ q ∈ lw_privs_1, lw_okq q := List.forall_mem_cons.mpr ⟨lw_p0, List.forall_mem_cons.mpr ⟨lw_p1, List.forall_mem_cons.mpr ⟨lw_p2, List.forall_mem_cons.mpr ⟨lw_p3, List.forall_mem_cons.mpr ⟨lw_p4, List.forall_mem_cons.mpr ⟨lw_p5, List.forall_mem_cons.mpr ⟨lw_p6, List.forall_mem_cons.mpr ⟨lw_p7, List.forall_mem_cons.mpr ⟨lw_p8, List.forall_mem_cons.mpr ⟨lw_p9, List.forall_mem_cons.mpr ⟨lw_p10, List.forall_mem_cons.mpr ⟨lw_p11, List.forall_mem_cons.mpr ⟨lw_p12, List.forall_mem_cons.mpr ⟨lw_p13, List.forall_mem_cons.mpr ⟨lw_p14, List.forall_mem_cons.mpr ⟨lw_p15, fun _ h => absurd h List.not_mem_nil⟩⟩⟩⟩⟩⟩⟩⟩⟩⟩⟩⟩⟩⟩⟩⟩
theorem lw_p16 : lw_okq (⟨"HopMeetModel", "of", "(II)I"⟩, 10) := ⟨⟨by decide +kernel, by decide +kernel⟩, List.mem_of_getElem? (i := 394) (by decide +kernel), List.mem_of_getElem? (i := 482) (by decide +kernel), List.mem_of_getElem? (i := 483) (by decide +kernel)⟩
theorem lw_p17 : lw_okq (⟨"HopMeetModel", "drawn", "(I)I"⟩, 10) := ⟨⟨by decide +kernel, by decide +kernel⟩, List.mem_of_getElem? (i := 394) (by decide +kernel), List.mem_of_getElem? (i := 500) (by decide +kernel), List.mem_of_getElem? (i := 501) (by decide +kernel)⟩
theorem lw_p18 : lw_okq (⟨"HopMeetModel", "common", "()I"⟩, 10) := ⟨⟨by decide +kernel, by decide +kernel⟩, List.mem_of_getElem? (i := 394) (by decide +kernel), List.mem_of_getElem? (i := 506) (by decide +kernel), List.mem_of_getElem? (i := 507) (by decide +kernel)⟩
theorem lw_p19 : lw_okq (⟨"HopMeetModel", "groups", "()I"⟩, 10) := ⟨⟨by decide +kernel, by decide +kernel⟩, List.mem_of_getElem? (i := 394) (by decide +kernel), List.mem_of_getElem? (i := 518) (by decide +kernel), List.mem_of_getElem? (i := 519) (by decide +kernel)⟩
theorem lw_p20 : lw_okq (⟨"HopMeetModel", "points", "(II)I"⟩, 10) := ⟨⟨by decide +kernel, by decide +kernel⟩, List.mem_of_getElem? (i := 394) (by decide +kernel), List.mem_of_getElem? (i := 530) (by decide +kernel), List.mem_of_getElem? (i := 531) (by decide +kernel)⟩
theorem lw_p21 : lw_okq (⟨"HopMeetModel", "place", "(II)I"⟩, 10) := ⟨⟨by decide +kernel, by decide +kernel⟩, List.mem_of_getElem? (i := 394) (by decide +kernel), List.mem_of_getElem? (i := 538) (by decide +kernel), List.mem_of_getElem? (i := 539) (by decide +kernel)⟩
theorem lw_p22 : lw_okq (⟨"HopMeetModel", "whyNot", "(II)I"⟩, 10) := ⟨⟨by decide +kernel, by decide +kernel⟩, List.mem_of_getElem? (i := 394) (by decide +kernel), List.mem_of_getElem? (i := 542) (by decide +kernel), List.mem_of_getElem? (i := 543) (by decide +kernel)⟩
theorem lw_p23 : lw_okq (⟨"HopMeetModel", "lands", "(II)I"⟩, 10) := ⟨⟨by decide +kernel, by decide +kernel⟩, List.mem_of_getElem? (i := 394) (by decide +kernel), List.mem_of_getElem? (i := 546) (by decide +kernel), List.mem_of_getElem? (i := 547) (by decide +kernel)⟩
theorem lw_p24 : lw_okq (⟨"HopMeetModel", "isShut", "(III)Z"⟩, 10) := ⟨⟨by decide +kernel, by decide +kernel⟩, List.mem_of_getElem? (i := 394) (by decide +kernel), List.mem_of_getElem? (i := 553) (by decide +kernel), List.mem_of_getElem? (i := 554) (by decide +kernel)⟩
theorem lw_p25 : lw_okq (⟨"HopMeetModel", "areTwo", "(II)Z"⟩, 10) := ⟨⟨by decide +kernel, by decide +kernel⟩, List.mem_of_getElem? (i := 394) (by decide +kernel), List.mem_of_getElem? (i := 565) (by decide +kernel), List.mem_of_getElem? (i := 566) (by decide +kernel)⟩
theorem lw_p26 : lw_okq (⟨"HopMeetModel", "isMet", "(III)Z"⟩, 10) := ⟨⟨by decide +kernel, by decide +kernel⟩, List.mem_of_getElem? (i := 394) (by decide +kernel), List.mem_of_getElem? (i := 569) (by decide +kernel), List.mem_of_getElem? (i := 570) (by decide +kernel)⟩
theorem lw_p27 : lw_okq (⟨"HopMeetModel", "worstOf", "(III)I"⟩, 10) := ⟨⟨by decide +kernel, by decide +kernel⟩, List.mem_of_getElem? (i := 394) (by decide +kernel), List.mem_of_getElem? (i := 577) (by decide +kernel), List.mem_of_getElem? (i := 578) (by decide +kernel)⟩
theorem lw_p28 : lw_okq (⟨"HopMeetModel", "slot", "()V"⟩, 10) := ⟨⟨by decide +kernel, by decide +kernel⟩, List.mem_of_getElem? (i := 394) (by decide +kernel), List.mem_of_getElem? (i := 598) (by decide +kernel), List.mem_of_getElem? (i := 599) (by decide +kernel)⟩
theorem lw_p29 : lw_okq (⟨"HopMeetModel", "join", "(II)V"⟩, 10) := ⟨⟨by decide +kernel, by decide +kernel⟩, List.mem_of_getElem? (i := 394) (by decide +kernel), List.mem_of_getElem? (i := 602) (by decide +kernel), List.mem_of_getElem? (i := 603) (by decide +kernel)⟩
def lw_privs_2 : List (MethodName × Nat) := [(⟨"HopMeetModel", "of", "(II)I"⟩, 10), (⟨"HopMeetModel", "drawn", "(I)I"⟩, 10), (⟨"HopMeetModel", "common", "()I"⟩, 10), (⟨"HopMeetModel", "groups", "()I"⟩, 10), (⟨"HopMeetModel", "points", "(II)I"⟩, 10), (⟨"HopMeetModel", "place", "(II)I"⟩, 10), (⟨"HopMeetModel", "whyNot", "(II)I"⟩, 10), (⟨"HopMeetModel", "lands", "(II)I"⟩, 10), (⟨"HopMeetModel", "isShut", "(III)Z"⟩, 10), (⟨"HopMeetModel", "areTwo", "(II)Z"⟩, 10), (⟨"HopMeetModel", "isMet", "(III)Z"⟩, 10), (⟨"HopMeetModel", "worstOf", "(III)I"⟩, 10), (⟨"HopMeetModel", "slot", "()V"⟩, 10), (⟨"HopMeetModel", "join", "(II)V"⟩, 10)]
theorem lw_r2 : ∀ q ∈ lw_privs_2, lw_okq q := List.forall_mem_cons.mpr ⟨lw_p16, List.forall_mem_cons.mpr ⟨lw_p17, List.forall_mem_cons.mpr ⟨lw_p18, List.forall_mem_cons.mpr ⟨lw_p19, List.forall_mem_cons.mpr ⟨lw_p20, List.forall_mem_cons.mpr ⟨lw_p21, List.forall_mem_cons.mpr ⟨lw_p22, List.forall_mem_cons.mpr ⟨lw_p23, List.forall_mem_cons.mpr ⟨lw_p24, List.forall_mem_cons.mpr ⟨lw_p25, List.forall_mem_cons.mpr ⟨lw_p26, List.forall_mem_cons.mpr ⟨lw_p27, List.forall_mem_cons.mpr ⟨lw_p28, List.forall_mem_cons.mpr ⟨lw_p29, fun _ h => absurd h List.not_mem_nil⟩⟩⟩⟩⟩⟩⟩⟩⟩⟩⟩⟩⟩⟩
def lw_privs : List (MethodName × Nat) := lw_privs_1 ++ (lw_privs_2)
def lw_tbl : List Cond := k2_sels lw_privs ++ tables_1
theorem lw_privs_ok : ∀ q ∈ lw_privs, lw_okq q := by
  show ∀ q ∈ lw_privs_1 ++ (lw_privs_2), lw_okq q
  exact List.forall_mem_append.mpr ⟨lw_r1, lw_r2⟩
/-! ===== BEGIN words of one list among another's, by their places ===== -/
theorem goodIn_r {big : List Cond} (ws : List Cond) (ps : List Nat) (hp : ws = ps.filterMap (fun i => big[i]?)) (h : ws.all goodWord = true) : GoodIn big ws := by
  intro w hw
  have h1 := List.all_eq_true.mp h w hw
  rw [hp] at hw
  obtain ⟨i, -, hi⟩ := List.mem_filterMap.mp hw
  have hm : w ∈ big := by first | exact List.mem_of_getElem? hi | exact List.getElem?_mem hi
  exact ⟨hm, good_of_word h1⟩
theorem goodIn_app {big a b : List Cond} (ha : GoodIn big a) (hb : GoodIn big b) : GoodIn big (a ++ b) := fun w h => (List.mem_append.mp h).elim (ha w) (hb w)
theorem goodIn_ca {big a b : List Cond} {c : Cond} (ha : GoodIn big (c :: a)) (hb : GoodIn big b) : GoodIn big (c :: (a ++ b)) := fun w h => (List.mem_cons.mp h).elim (fun e => ha w (List.mem_cons.mpr (Or.inl e))) (fun h => (List.mem_append.mp h).elim (fun h => ha w (List.mem_cons.mpr (Or.inr h))) (hb w))
theorem goodIn_sub {big ws : List Cond} (hm : ∀ w ∈ ws, w ∈ big) (h : ws.all goodWord = true) : GoodIn big ws := fun w hw => ⟨hm w hw, good_of_word (List.all_eq_true.mp h w hw)⟩
/-! ===== END ===== -/

/-! ===== BEGIN new T[n][m]: the outer array a place, the inner ones among the pooled ===== -/
/-- f, but v at every address of l -/
def vr_up {α : Type} (f : Nat → α) (l : List Nat) (v : α) : Nat → α := fun a => if a ∈ l then v else f a
theorem vr_up_in {α : Type} {f : Nat → α} {l : List Nat} {v : α} {a : Nat} (h : a ∈ l) : vr_up f l v a = v := if_pos h
theorem vr_up_ne {α : Type} {f : Nat → α} {l : List Nat} {v : α} {a : Nat} (h : a ∉ l) : vr_up f l v a = f a := if_neg h
theorem vr_rows {L l : List Nat} {f : Nat → va_E} {e : va_E} (h : ∀ a, a ∈ l → a ∉ L) : va_pl L f ++ l.map (fun a => (a, e)) = va_pl (L ++ l) (vr_up f l e) := by
  unfold va_pl
  rw [List.map_append]
  congr 1
  · apply List.map_congr_left
    intro a ha
    rw [vr_up_ne (fun q => h a q ha)]
  · apply List.map_congr_left
    intro a ha
    rw [vr_up_in ha]
theorem vr_lay {X rows : va_W} {x : Nat × va_E} {pl : va_W} {D : va_G} {cl : List vw_C} {H : Heap} (hP : va_P D cl (((X ++ pl) ++ [x]) ++ rows) H) : va_P D cl ((X ++ [x]) ++ (pl ++ rows)) H := by
  rw [List.append_assoc (X ++ pl)] at hP
  have h := va_P.swap hP
  rw [← List.append_assoc X] at h
  have h2 := va_P.swap h
  rw [List.append_assoc (X ++ [x])] at h2
  exact h2
theorem vr_layD {X rows : va_W} {x : Nat × va_E} {pl : va_W} {A : Nat → Prop} (hD : va_D A (((X ++ pl) ++ [x]) ++ rows)) : va_D A ((X ++ [x]) ++ (pl ++ rows)) := by
  rw [List.append_assoc (X ++ pl)] at hD
  have h := va_D.swap hD
  rw [← List.append_assoc X] at h
  have h2 := va_D.swap h
  rw [List.append_assoc (X ++ [x])] at h2
  exact h2
theorem vr_outer (c : ClassId) (N h0 : Nat) : ∀ i : Nat, Jvm.Free.Multi.outerC c N h0 i = arrV c N (fun j => va_rf (if j < i then some (h0 + 1 + j) else none))
  | 0 => by
    show ({ cls := c, slots := Array.replicate N .null, vm := .none } : Cell) = _
    rw [arrV_new]
    refine congrArg (arrV c N) (funext fun j => ?_)
    simp [va_rf]
  | i + 1 => by
    show (Jvm.Free.Multi.outerC c N h0 i).setSlot i (.ref (h0 + 1 + i)) = _
    rw [vr_outer c N h0 i, arrV_store]
    refine congrArg (arrV c N) (funext fun j => ?_)
    by_cases e : j = i
    · subst e
      simp [updV, va_rf]
    · by_cases h : j < i
      · simp [updV, e, h, Nat.lt_succ_of_lt h]
      · simp [updV, e, h, show ¬ j < i + 1 by omega]
/-! ===== END ===== -/

/-! ===== BEGIN printed: names, fields, word lists, decode rows ===== -/
def RX0 : String := "HopMeet$Groups"
def TX0 : u_T := fun k => match k with
  | 0 => ("HopMeet$Groups", "slotsRun", "I", false)
  | 1 => ("HopMeet$Groups", "userCount", "I", false)
  | 2 => ("HopMeet$Groups", "least", "[I", true)
  | _ => ("HopMeet$Groups", "leaderOn", "[I", true)
def tyX0 : Nat → FieldType := fun k => match k with
  | 0 => .int
  | 1 => .int
  | 2 => .array .int
  | _ => .array .int
abbrev wsX00 : List Cond := u_ws RX0 TX0 4
theorem nmX0 : ∀ a, a < 4 → ∀ b, b < 4 → a ≠ b → (TX0 a).2.1 ≠ (TX0 b).2.1 := by decide +kernel
theorem tyX0_ok : ∀ k, k < 4 → parseFieldDescriptor (TX0 k).2.2.1 = some (tyX0 k) := by decide +kernel
abbrev cX0_init : ByteArray := prog_2_method_1_code
def yX0_init : MethodName := ⟨RX0, "<init>", "()V"⟩
abbrev cX0_begin : ByteArray := prog_2_method_2_code
def yX0_begin : MethodName := ⟨RX0, "begin", "(I)V"⟩
abbrev cX0_howMany : ByteArray := prog_2_method_3_code
def yX0_howMany : MethodName := ⟨RX0, "howMany", "()I"⟩
abbrev cX0_sizeOfGroupOf : ByteArray := prog_2_method_4_code
def yX0_sizeOfGroupOf : MethodName := ⟨RX0, "sizeOfGroupOf", "(I)I"⟩
abbrev cX0_runSlot : ByteArray := prog_2_method_5_code
def yX0_runSlot : MethodName := ⟨RX0, "runSlot", "(LHopMeet$Scene;)V"⟩
abbrev cX0_settle : ByteArray := prog_2_method_6_code
def yX0_settle : MethodName := ⟨RX0, "settle", "(II)V"⟩
abbrev cX0_join : ByteArray := prog_2_method_7_code
def yX0_join : MethodName := ⟨RX0, "join", "(II)V"⟩
def RX1 : String := "HopMeet$Past"
def TX1 : u_T := fun k => match k with
  | 0 => ("HopMeet$Past", "scenes", "[LHopMeet$Scene;", true)
  | 1 => ("HopMeet$Past", "next", "I", false)
  | _ => ("HopMeet$Past", "count", "I", false)
def tyX1 : Nat → FieldType := fun k => match k with
  | 0 => .array (.object "HopMeet$Scene")
  | 1 => .int
  | _ => .int
abbrev wsX10 : List Cond := u_ws RX1 TX1 3
theorem nmX1 : ∀ a, a < 3 → ∀ b, b < 3 → a ≠ b → (TX1 a).2.1 ≠ (TX1 b).2.1 := by decide +kernel
theorem tyX1_ok : ∀ k, k < 3 → parseFieldDescriptor (TX1 k).2.2.1 = some (tyX1 k) := by decide +kernel
abbrev cX1_init : ByteArray := prog_3_method_1_code
def yX1_init : MethodName := ⟨RX1, "<init>", "()V"⟩
abbrev cX1_forget : ByteArray := prog_3_method_2_code
def yX1_forget : MethodName := ⟨RX1, "forget", "()V"⟩
abbrev cX1_remember : ByteArray := prog_3_method_3_code
def yX1_remember : MethodName := ⟨RX1, "remember", "(LHopMeet$Scene;)V"⟩
abbrev cX1_restore : ByteArray := prog_3_method_4_code
def yX1_restore : MethodName := ⟨RX1, "restore", "(LHopMeet$Scene;)V"⟩
def RX2 : String := "HopMeet$Scene"
def TX2 : u_T := fun k => match k with
  | 0 => ("HopMeet$Scene", "channelCount", "I", false)
  | 1 => ("HopMeet$Scene", "prime", "I", false)
  | 2 => ("HopMeet$Scene", "userCount", "I", false)
  | 3 => ("HopMeet$Scene", "spellCount", "I", false)
  | 4 => ("HopMeet$Scene", "users", "[[I", true)
  | _ => ("HopMeet$Scene", "spells", "[[I", true)
def tyX2 : Nat → FieldType := fun k => match k with
  | 0 => .int
  | 1 => .int
  | 2 => .int
  | 3 => .int
  | 4 => .array (.array .int)
  | _ => .array (.array .int)
abbrev wsX20 : List Cond := u_ws RX2 TX2 6
theorem nmX2 : ∀ a, a < 6 → ∀ b, b < 6 → a ≠ b → (TX2 a).2.1 ≠ (TX2 b).2.1 := by decide +kernel
theorem tyX2_ok : ∀ k, k < 6 → parseFieldDescriptor (TX2 k).2.2.1 = some (tyX2 k) := by decide +kernel
abbrev cX2_init : ByteArray := prog_4_method_1_code
def yX2_init : MethodName := ⟨RX2, "<init>", "()V"⟩
abbrev cX2_clear : ByteArray := prog_4_method_2_code
def yX2_clear : MethodName := ⟨RX2, "clear", "(I)V"⟩
abbrev cX2_become : ByteArray := prog_4_method_3_code
def yX2_become : MethodName := ⟨RX2, "become", "(LHopMeet$Scene;)V"⟩
abbrev cX2_addUser : ByteArray := prog_4_method_4_code
def yX2_addUser : MethodName := ⟨RX2, "addUser", "(IIII)V"⟩
abbrev cX2_addSpell : ByteArray := prog_4_method_5_code
def yX2_addSpell : MethodName := ⟨RX2, "addSpell", "(IIII)V"⟩
abbrev cX2_drawLots : ByteArray := prog_4_method_6_code
def yX2_drawLots : MethodName := ⟨RX2, "drawLots", "(I)V"⟩
abbrev cX2_allChannels : ByteArray := prog_4_method_7_code
def yX2_allChannels : MethodName := ⟨RX2, "allChannels", "()I"⟩
abbrev cX2_commonChannels : ByteArray := prog_4_method_8_code
def yX2_commonChannels : MethodName := ⟨RX2, "commonChannels", "()I"⟩
abbrev cX2_clockOf : ByteArray := prog_4_method_9_code
def yX2_clockOf : MethodName := ⟨RX2, "clockOf", "(II)I"⟩
abbrev cX2_aim : ByteArray := prog_4_method_10_code
def yX2_aim : MethodName := ⟨RX2, "aim", "(II)I"⟩
abbrev cX2_aimOfJumpAndStay : ByteArray := prog_4_method_11_code
def yX2_aimOfJumpAndStay : MethodName := ⟨RX2, "aimOfJumpAndStay", "(III)I"⟩
abbrev cX2_placeByClock : ByteArray := prog_4_method_12_code
def yX2_placeByClock : MethodName := ⟨RX2, "placeByClock", "(II)I"⟩
abbrev cX2_place : ByteArray := prog_4_method_13_code
def yX2_place : MethodName := ⟨RX2, "place", "(II)I"⟩
abbrev cX2_whyNowhere : ByteArray := prog_4_method_14_code
def yX2_whyNowhere : MethodName := ⟨RX2, "whyNowhere", "(II)I"⟩
abbrev cX2_meet : ByteArray := prog_4_method_15_code
def yX2_meet : MethodName := ⟨RX2, "meet", "(III)Z"⟩
abbrev cX2_isShut : ByteArray := prog_4_method_16_code
def yX2_isShut : MethodName := ⟨RX2, "isShut", "(III)Z"⟩
abbrev cX2_holds : ByteArray := prog_4_method_17_code
def yX2_holds : MethodName := ⟨RX2, "holds", "(II)Z"⟩
abbrev cX2_quotient : ByteArray := prog_4_method_18_code
def yX2_quotient : MethodName := ⟨RX2, "quotient", "(II)I"⟩
abbrev cX2_remainder : ByteArray := prog_4_method_19_code
def yX2_remainder : MethodName := ⟨RX2, "remainder", "(II)I"⟩
abbrev cX2_memberWithNumber : ByteArray := prog_4_method_20_code
def yX2_memberWithNumber : MethodName := ⟨RX2, "memberWithNumber", "(II)I"⟩
abbrev cX2_primeAbove : ByteArray := prog_4_method_21_code
def yX2_primeAbove : MethodName := ⟨RX2, "primeAbove", "(I)I"⟩
abbrev cX2_isPrime : ByteArray := prog_4_method_22_code
def yX2_isPrime : MethodName := ⟨RX2, "isPrime", "(I)Z"⟩
abbrev cX2_nextLot : ByteArray := prog_4_method_23_code
def yX2_nextLot : MethodName := ⟨RX2, "nextLot", "(J)J"⟩
def RX3 : String := "HopMeet"
def TX3 : u_T := fun k => match k with
  | 0 => ("HopMeet", "now", "LHopMeet$Scene;", true)
  | 1 => ("HopMeet", "past", "LHopMeet$Past;", true)
  | 2 => ("HopMeet", "images", "[LHopMeet$Scene;", true)
  | 3 => ("HopMeet", "wasKept", "[Z", true)
  | 4 => ("HopMeet", "groups", "LHopMeet$Groups;", true)
  | 5 => ("HopMeet", "placesOfFirst", "[I", true)
  | 6 => ("HopMeet", "placesOfSecond", "[I", true)
  | _ => ("HopMeet", "timesOn", "[I", true)
def tyX3 : Nat → FieldType := fun k => match k with
  | 0 => .object "HopMeet$Scene"
  | 1 => .object "HopMeet$Past"
  | 2 => .array (.object "HopMeet$Scene")
  | 3 => .array .boolean
  | 4 => .object "HopMeet$Groups"
  | 5 => .array .int
  | 6 => .array .int
  | _ => .array .int
abbrev wsX30 : List Cond := u_ws RX3 TX3 8
theorem nmX3 : ∀ a, a < 8 → ∀ b, b < 8 → a ≠ b → (TX3 a).2.1 ≠ (TX3 b).2.1 := by decide +kernel
theorem tyX3_ok : ∀ k, k < 8 → parseFieldDescriptor (TX3 k).2.2.1 = some (tyX3 k) := by decide +kernel
abbrev cX3_init : ByteArray := prog_1_method_1_code
def yX3_init : MethodName := ⟨RX3, "<init>", "()V"⟩
abbrev cX3_channels : ByteArray := prog_1_method_2_code
def yX3_channels : MethodName := ⟨RX3, "channels", "(I)I"⟩
abbrev cX3_user : ByteArray := prog_1_method_3_code
def yX3_user : MethodName := ⟨RX3, "user", "(IIII)I"⟩
abbrev cX3_open : ByteArray := prog_1_method_4_code
def yX3_open : MethodName := ⟨RX3, "open", "(II)I"⟩
abbrev cX3_set : ByteArray := prog_1_method_5_code
def yX3_set : MethodName := ⟨RX3, "set", "(III)I"⟩
abbrev cX3_shut : ByteArray := prog_1_method_6_code
def yX3_shut : MethodName := ⟨RX3, "shut", "(IIII)I"⟩
abbrev cX3_drift : ByteArray := prog_1_method_7_code
def yX3_drift : MethodName := ⟨RX3, "drift", "(I)I"⟩
abbrev cX3_undo : ByteArray := prog_1_method_8_code
def yX3_undo : MethodName := ⟨RX3, "undo", "()I"⟩
abbrev cX3_told : ByteArray := prog_1_method_9_code
def yX3_told : MethodName := ⟨RX3, "told", "(I)I"⟩
abbrev cX3_userOf : ByteArray := prog_1_method_10_code
def yX3_userOf : MethodName := ⟨RX3, "userOf", "(II)I"⟩
abbrev cX3_pointsAt : ByteArray := prog_1_method_11_code
def yX3_pointsAt : MethodName := ⟨RX3, "pointsAt", "(II)I"⟩
abbrev cX3_on : ByteArray := prog_1_method_12_code
def yX3_on : MethodName := ⟨RX3, "on", "(II)I"⟩
abbrev cX3_why : ByteArray := prog_1_method_13_code
def yX3_why : MethodName := ⟨RX3, "why", "(II)I"⟩
abbrev cX3_first : ByteArray := prog_1_method_14_code
def yX3_first : MethodName := ⟨RX3, "first", "(II)I"⟩
abbrev cX3_worst : ByteArray := prog_1_method_15_code
def yX3_worst : MethodName := ⟨RX3, "worst", "(III)I"⟩
abbrev cX3_bound : ByteArray := prog_1_method_16_code
def yX3_bound : MethodName := ⟨RX3, "bound", "(IIII)I"⟩
abbrev cX3_together : ByteArray := prog_1_method_17_code
def yX3_together : MethodName := ⟨RX3, "together", "(III)I"⟩
abbrev cX3_even : ByteArray := prog_1_method_18_code
def yX3_even : MethodName := ⟨RX3, "even", "(II)I"⟩
abbrev cX3_run : ByteArray := prog_1_method_19_code
def yX3_run : MethodName := ⟨RX3, "run", "(I)I"⟩
abbrev cX3_merge : ByteArray := prog_1_method_20_code
def yX3_merge : MethodName := ⟨RX3, "merge", "()I"⟩
abbrev cX3_part : ByteArray := prog_1_method_21_code
def yX3_part : MethodName := ⟨RX3, "part", "()I"⟩
abbrev cX3_keep : ByteArray := prog_1_method_22_code
def yX3_keep : MethodName := ⟨RX3, "keep", "(I)I"⟩
abbrev cX3_goBack : ByteArray := prog_1_method_23_code
def yX3_goBack : MethodName := ⟨RX3, "goBack", "(I)I"⟩
abbrev cX3_isUser : ByteArray := prog_1_method_24_code
def yX3_isUser : MethodName := ⟨RX3, "isUser", "(I)Z"⟩
abbrev cX3_areTwoUsers : ByteArray := prog_1_method_25_code
def yX3_areTwoUsers : MethodName := ⟨RX3, "areTwoUsers", "(II)Z"⟩
abbrev cX3_isImage : ByteArray := prog_1_method_26_code
def yX3_isImage : MethodName := ⟨RX3, "isImage", "(I)Z"⟩
abbrev cX3_isSlotAsked : ByteArray := prog_1_method_27_code
def yX3_isSlotAsked : MethodName := ⟨RX3, "isSlotAsked", "(I)Z"⟩
abbrev cX3_isShift : ByteArray := prog_1_method_28_code
def yX3_isShift : MethodName := ⟨RX3, "isShift", "(I)Z"⟩
abbrev cX3_mayHave : ByteArray := prog_1_method_29_code
def yX3_mayHave : MethodName := ⟨RX3, "mayHave", "(II)Z"⟩
abbrev cX3_change : ByteArray := prog_1_method_30_code
def yX3_change : MethodName := ⟨RX3, "change", "(III)I"⟩
abbrev cX3_worstOfShifts : ByteArray := prog_1_method_31_code
def yX3_worstOfShifts : MethodName := ⟨RX3, "worstOfShifts", "(III)I"⟩
abbrev cX3_slotsToMeet : ByteArray := prog_1_method_32_code
def yX3_slotsToMeet : MethodName := ⟨RX3, "slotsToMeet", "(I)I"⟩
abbrev cX3_countTimesOn : ByteArray := prog_1_method_33_code
def yX3_countTimesOn : MethodName := ⟨RX3, "countTimesOn", "(II)V"⟩
def RX4 : String := "HopMeetModel"
def TX4 : u_T := fun k => match k with
  | 0 => ("HopMeetModel", "now", "[I", true)
  | 1 => ("HopMeetModel", "backs", "I", false)
  | 2 => ("HopMeetModel", "back", "[I", true)
  | 3 => ("HopMeetModel", "image", "[I", true)
  | 4 => ("HopMeetModel", "isKept", "[Z", true)
  | 5 => ("HopMeetModel", "slots", "I", false)
  | 6 => ("HopMeetModel", "prime", "I", false)
  | 7 => ("HopMeetModel", "group", "[I", true)
  | 8 => ("HopMeetModel", "many", "[I", true)
  | _ => ("HopMeetModel", "lots", "J", false)
def tyX4 : Nat → FieldType := fun k => match k with
  | 0 => .array .int
  | 1 => .int
  | 2 => .array .int
  | 3 => .array .int
  | 4 => .array .boolean
  | 5 => .int
  | 6 => .int
  | 7 => .array .int
  | 8 => .array .int
  | _ => .long
abbrev wsX40 : List Cond := u_ws RX4 TX4 10
theorem nmX4 : ∀ a, a < 10 → ∀ b, b < 10 → a ≠ b → (TX4 a).2.1 ≠ (TX4 b).2.1 := by decide +kernel
theorem tyX4_ok : ∀ k, k < 10 → parseFieldDescriptor (TX4 k).2.2.1 = some (tyX4 k) := by decide +kernel
abbrev cX4_init : ByteArray := prog_6_method_1_code
def yX4_init : MethodName := ⟨RX4, "<init>", "()V"⟩
abbrev cX4_in : ByteArray := prog_6_method_2_code
def yX4_in : MethodName := ⟨RX4, "in", "(III)Z"⟩
abbrev cX4_bring : ByteArray := prog_6_method_3_code
def yX4_bring : MethodName := ⟨RX4, "bring", "([II[III)V"⟩
abbrev cX4_all : ByteArray := prog_6_method_4_code
def yX4_all : MethodName := ⟨RX4, "all", "()I"⟩
abbrev cX4_layPrime : ByteArray := prog_6_method_5_code
def yX4_layPrime : MethodName := ⟨RX4, "layPrime", "()V"⟩
abbrev cX4_isPrime : ByteArray := prog_6_method_6_code
def yX4_isPrime : MethodName := ⟨RX4, "isPrime", "(I)Z"⟩
abbrev cX4_isUser : ByteArray := prog_6_method_7_code
def yX4_isUser : MethodName := ⟨RX4, "isUser", "(I)Z"⟩
abbrev cX4_areTwo : ByteArray := prog_6_method_8_code
def yX4_areTwo : MethodName := ⟨RX4, "areTwo", "(II)Z"⟩
abbrev cX4_of : ByteArray := prog_6_method_9_code
def yX4_of : MethodName := ⟨RX4, "of", "(II)I"⟩
abbrev cX4_points : ByteArray := prog_6_method_10_code
def yX4_points : MethodName := ⟨RX4, "points", "(II)I"⟩
abbrev cX4_ones : ByteArray := prog_6_method_11_code
def yX4_ones : MethodName := ⟨RX4, "ones", "(I)I"⟩
abbrev cX4_lands : ByteArray := prog_6_method_12_code
def yX4_lands : MethodName := ⟨RX4, "lands", "(II)I"⟩
abbrev cX4_isShut : ByteArray := prog_6_method_13_code
def yX4_isShut : MethodName := ⟨RX4, "isShut", "(III)Z"⟩
abbrev cX4_whyNot : ByteArray := prog_6_method_14_code
def yX4_whyNot : MethodName := ⟨RX4, "whyNot", "(II)I"⟩
abbrev cX4_place : ByteArray := prog_6_method_15_code
def yX4_place : MethodName := ⟨RX4, "place", "(II)I"⟩
abbrev cX4_isMet : ByteArray := prog_6_method_16_code
def yX4_isMet : MethodName := ⟨RX4, "isMet", "(III)Z"⟩
abbrev cX4_anew : ByteArray := prog_6_method_17_code
def yX4_anew : MethodName := ⟨RX4, "anew", "()V"⟩
abbrev cX4_note : ByteArray := prog_6_method_18_code
def yX4_note : MethodName := ⟨RX4, "note", "()V"⟩
abbrev cX4_channels : ByteArray := prog_6_method_19_code
def yX4_channels : MethodName := ⟨RX4, "channels", "(I)I"⟩
abbrev cX4_isBound : ByteArray := prog_6_method_20_code
def yX4_isBound : MethodName := ⟨RX4, "isBound", "(II)Z"⟩
abbrev cX4_user : ByteArray := prog_6_method_21_code
def yX4_user : MethodName := ⟨RX4, "user", "(IIII)I"⟩
abbrev cX4_becomes : ByteArray := prog_6_method_22_code
def yX4_becomes : MethodName := ⟨RX4, "becomes", "(III)I"⟩
abbrev cX4_open : ByteArray := prog_6_method_23_code
def yX4_open : MethodName := ⟨RX4, "open", "(II)I"⟩
abbrev cX4_set : ByteArray := prog_6_method_24_code
def yX4_set : MethodName := ⟨RX4, "set", "(III)I"⟩
abbrev cX4_shut : ByteArray := prog_6_method_25_code
def yX4_shut : MethodName := ⟨RX4, "shut", "(IIII)I"⟩
abbrev cX4_drawn : ByteArray := prog_6_method_26_code
def yX4_drawn : MethodName := ⟨RX4, "drawn", "(I)I"⟩
abbrev cX4_drift : ByteArray := prog_6_method_27_code
def yX4_drift : MethodName := ⟨RX4, "drift", "(I)I"⟩
abbrev cX4_undo : ByteArray := prog_6_method_28_code
def yX4_undo : MethodName := ⟨RX4, "undo", "()I"⟩
abbrev cX4_common : ByteArray := prog_6_method_29_code
def yX4_common : MethodName := ⟨RX4, "common", "()I"⟩
abbrev cX4_groups : ByteArray := prog_6_method_30_code
def yX4_groups : MethodName := ⟨RX4, "groups", "()I"⟩
abbrev cX4_told : ByteArray := prog_6_method_31_code
def yX4_told : MethodName := ⟨RX4, "told", "(I)I"⟩
abbrev cX4_userOf : ByteArray := prog_6_method_32_code
def yX4_userOf : MethodName := ⟨RX4, "userOf", "(II)I"⟩
abbrev cX4_pointsAt : ByteArray := prog_6_method_33_code
def yX4_pointsAt : MethodName := ⟨RX4, "pointsAt", "(II)I"⟩
abbrev cX4_on : ByteArray := prog_6_method_34_code
def yX4_on : MethodName := ⟨RX4, "on", "(II)I"⟩
abbrev cX4_why : ByteArray := prog_6_method_35_code
def yX4_why : MethodName := ⟨RX4, "why", "(II)I"⟩
abbrev cX4_first : ByteArray := prog_6_method_36_code
def yX4_first : MethodName := ⟨RX4, "first", "(II)I"⟩
abbrev cX4_worstOf : ByteArray := prog_6_method_37_code
def yX4_worstOf : MethodName := ⟨RX4, "worstOf", "(III)I"⟩
abbrev cX4_worst : ByteArray := prog_6_method_38_code
def yX4_worst : MethodName := ⟨RX4, "worst", "(III)I"⟩
abbrev cX4_bound : ByteArray := prog_6_method_39_code
def yX4_bound : MethodName := ⟨RX4, "bound", "(IIII)I"⟩
abbrev cX4_together : ByteArray := prog_6_method_40_code
def yX4_together : MethodName := ⟨RX4, "together", "(III)I"⟩
abbrev cX4_even : ByteArray := prog_6_method_41_code
def yX4_even : MethodName := ⟨RX4, "even", "(II)I"⟩
abbrev cX4_slot : ByteArray := prog_6_method_42_code
def yX4_slot : MethodName := ⟨RX4, "slot", "()V"⟩
abbrev cX4_join : ByteArray := prog_6_method_43_code
def yX4_join : MethodName := ⟨RX4, "join", "(II)V"⟩
abbrev cX4_run : ByteArray := prog_6_method_44_code
def yX4_run : MethodName := ⟨RX4, "run", "(I)I"⟩
abbrev cX4_merge : ByteArray := prog_6_method_45_code
def yX4_merge : MethodName := ⟨RX4, "merge", "()I"⟩
abbrev cX4_part : ByteArray := prog_6_method_46_code
def yX4_part : MethodName := ⟨RX4, "part", "()I"⟩
abbrev cX4_keep : ByteArray := prog_6_method_47_code
def yX4_keep : MethodName := ⟨RX4, "keep", "(I)I"⟩
abbrev cX4_goBack : ByteArray := prog_6_method_48_code
def yX4_goBack : MethodName := ⟨RX4, "goBack", "(I)I"⟩
def RJ6 : String := "java/lang/Integer"
def TJ6 : u_T := fun k => match k with
  | _ => ("", "", "", false)
def tyJ6 : Nat → FieldType := fun k => match k with
  | _ => .int
abbrev wsJ60 : List Cond := u_ws RJ6 TJ6 0
theorem nmJ6 : ∀ a, a < 0 → ∀ b, b < 0 → a ≠ b → (TJ6 a).2.1 ≠ (TJ6 b).2.1 := by decide +kernel
theorem tyJ6_ok : ∀ k, k < 0 → parseFieldDescriptor (TJ6 k).2.2.1 = some (tyJ6 k) := by decide +kernel
abbrev cJ6_bitCount_0f7a4 : ByteArray := prog_7_method_49_code
def yJ6_bitCount_0f7a4 : MethodName := ⟨RJ6, "bitCount", "(I)I"⟩
def RJ9 : String := "java/lang/Math"
def TJ9 : u_T := fun k => match k with
  | _ => ("", "", "", false)
def tyJ9 : Nat → FieldType := fun k => match k with
  | _ => .int
abbrev wsJ90 : List Cond := u_ws RJ9 TJ9 0
theorem nmJ9 : ∀ a, a < 0 → ∀ b, b < 0 → a ≠ b → (TJ9 a).2.1 ≠ (TJ9 b).2.1 := by decide +kernel
theorem tyJ9_ok : ∀ k, k < 0 → parseFieldDescriptor (TJ9 k).2.2.1 = some (tyJ9 k) := by decide +kernel
abbrev cJ9_max_7cf53 : ByteArray := prog_8_method_65_code
def yJ9_max_7cf53 : MethodName := ⟨RJ9, "max", "(II)I"⟩
abbrev cJ9_min_7cf53 : ByteArray := prog_8_method_69_code
def yJ9_min_7cf53 : MethodName := ⟨RJ9, "min", "(II)I"⟩
def RJ10 : String := "java/lang/System"
def TJ10 : u_T := fun k => match k with
  | _ => ("", "", "", false)
def tyJ10 : Nat → FieldType := fun k => match k with
  | _ => .int
abbrev wsJ100 : List Cond := u_ws RJ10 TJ10 0
theorem nmJ10 : ∀ a, a < 0 → ∀ b, b < 0 → a ≠ b → (TJ10 a).2.1 ≠ (TJ10 b).2.1 := by decide +kernel
theorem tyJ10_ok : ∀ k, k < 0 → parseFieldDescriptor (TJ10 k).2.2.1 = some (tyJ10 k) := by decide +kernel
def RL : String := "HopMeetLaw"
abbrev cL_law : ByteArray := code
def yL_law : MethodName := ⟨RL, "law", "([I)Z"⟩
def wsX0_init : List Cond := .code yX0_init cX0_init 1 none :: ([.methodLink RX0 3 objectInit, .instanceMethod objectInit, .code objectInit ⟨#[0xb1]⟩ 1 none, .arrayClass .int, .fieldLink RX0 9 "HopMeet$Groups" "least" "[I", .fieldLink RX0 15 "HopMeet$Groups" "leaderOn" "[I"] ++ wsX00)
def wsX0_begin : List Cond := .code yX0_begin cX0_begin 3 none :: ([.fieldLink RX0 18 "HopMeet$Groups" "slotsRun" "I", .fieldLink RX0 22 "HopMeet$Groups" "userCount" "I", .fieldLink RX0 9 "HopMeet$Groups" "least" "[I"] ++ wsX00)
def wsX0_howMany : List Cond := .code yX0_howMany cX0_howMany 3 (some .int) :: ([.fieldLink RX0 22 "HopMeet$Groups" "userCount" "I", .fieldLink RX0 9 "HopMeet$Groups" "least" "[I"] ++ wsX00)
def wsX0_sizeOfGroupOf : List Cond := .code yX0_sizeOfGroupOf cX0_sizeOfGroupOf 4 (some .int) :: ([.fieldLink RX0 22 "HopMeet$Groups" "userCount" "I", .fieldLink RX0 9 "HopMeet$Groups" "least" "[I"] ++ wsX00)
def wsX2_clockOf : List Cond := .code yX2_clockOf cX2_clockOf 3 (some .int) :: ([.fieldLink RX2 11 "HopMeet$Scene" "users" "[[I"] ++ wsX20)
def wsX2_remainder : List Cond := .code yX2_remainder cX2_remainder 2 (some .int) :: ([])
def wsX2_quotient : List Cond := .code yX2_quotient cX2_quotient 2 (some .int) :: ([])
def wsX2_aimOfJumpAndStay : List Cond := .code yX2_aimOfJumpAndStay cX2_aimOfJumpAndStay 8 (some .int) :: ([.fieldLink RX2 31 "HopMeet$Scene" "prime" "I", .fieldLink RX2 23 "HopMeet$Scene" "channelCount" "I", .methodLink RX2 62 yX2_quotient, .static yX2_quotient, .initialized RX2, .code yX2_quotient cX2_quotient 2 (some .int), .methodLink RX2 54 yX2_remainder, .static yX2_remainder, .code yX2_remainder cX2_remainder 2 (some .int)] ++ wsX20)
def wsX2_aim : List Cond := .code yX2_aim cX2_aim 6 (some .int) :: ([.fieldLink RX2 11 "HopMeet$Scene" "users" "[[I", .fieldLink RX2 23 "HopMeet$Scene" "channelCount" "I", .fieldLink RX2 31 "HopMeet$Scene" "prime" "I", .methodLink RX2 54 yX2_remainder, .static yX2_remainder, .initialized RX2, .code yX2_remainder cX2_remainder 2 (some .int), .methodLink RX2 58 yX2_aimOfJumpAndStay, .instanceMethod yX2_aimOfJumpAndStay, .selects RX2 yX2_aimOfJumpAndStay yX2_aimOfJumpAndStay, .code yX2_aimOfJumpAndStay cX2_aimOfJumpAndStay 8 (some .int), .methodLink RX2 62 yX2_quotient, .static yX2_quotient, .code yX2_quotient cX2_quotient 2 (some .int)] ++ wsX20)
def wsX2_holds : List Cond := .code yX2_holds cX2_holds 2 (some .boolean) :: ([])
def wsJ6_bitCount_0f7a4 : List Cond := .code yJ6_bitCount_0f7a4 cJ6_bitCount_0f7a4 1 (some .int) :: ([.constant RJ6 265 (1431655765), .constant RJ6 266 (858993459), .constant RJ6 267 (252645135)])
def wsX2_memberWithNumber : List Cond := .code yX2_memberWithNumber cX2_memberWithNumber 4 (some .int) :: ([.methodLink RX2 68 yX2_holds, .static yX2_holds, .initialized RX2, .code yX2_holds cX2_holds 2 (some .boolean)])
def wsX2_placeByClock_r1 : List Cond := [Cond.fieldLink RX2 11 "HopMeet$Scene" "users" "[[I", Cond.methodLink RX2 65 yX2_aim, Cond.instanceMethod yX2_aim, Cond.selects RX2 yX2_aim yX2_aim, Cond.initialized RX2, Cond.code yX2_aim cX2_aim 6 (some .int), Cond.fieldLink RX2 23 "HopMeet$Scene" "channelCount" "I", Cond.fieldLink RX2 31 "HopMeet$Scene" "prime" "I", Cond.methodLink RX2 54 yX2_remainder, Cond.static yX2_remainder, Cond.code yX2_remainder cX2_remainder 2 (some .int), Cond.methodLink RX2 58 yX2_aimOfJumpAndStay, Cond.instanceMethod yX2_aimOfJumpAndStay, Cond.selects RX2 yX2_aimOfJumpAndStay yX2_aimOfJumpAndStay, Cond.code yX2_aimOfJumpAndStay cX2_aimOfJumpAndStay 8 (some .int), Cond.methodLink RX2 62 yX2_quotient, Cond.static yX2_quotient, Cond.code yX2_quotient cX2_quotient 2 (some .int), Cond.methodLink RX2 68 yX2_holds, Cond.static yX2_holds, Cond.code yX2_holds cX2_holds 2 (some .boolean), Cond.methodLink RX2 72 yJ6_bitCount_0f7a4, Cond.static yJ6_bitCount_0f7a4, Cond.initialized RJ6]
def wsX2_placeByClock_r2 : List Cond := [Cond.code yJ6_bitCount_0f7a4 cJ6_bitCount_0f7a4 1 (some .int), Cond.constant RJ6 265 (1431655765), Cond.constant RJ6 266 (858993459), Cond.constant RJ6 267 (252645135), Cond.methodLink RX2 77 yX2_memberWithNumber, Cond.static yX2_memberWithNumber, Cond.code yX2_memberWithNumber cX2_memberWithNumber 4 (some .int)]
def wsX2_placeByClock : List Cond := .code yX2_placeByClock cX2_placeByClock 5 (some .int) :: ((wsX2_placeByClock_r1 ++ wsX2_placeByClock_r2) ++ wsX20)
def wsX2_isShut : List Cond := .code yX2_isShut cX2_isShut 8 (some .boolean) :: ([.fieldLink RX2 37 "HopMeet$Scene" "spellCount" "I", .fieldLink RX2 16 "HopMeet$Scene" "spells" "[[I"] ++ wsX20)
def wsX2_place_r1 : List Cond := [Cond.methodLink RX2 80 yX2_clockOf, Cond.instanceMethod yX2_clockOf, Cond.selects RX2 yX2_clockOf yX2_clockOf, Cond.initialized RX2, Cond.code yX2_clockOf cX2_clockOf 3 (some .int), Cond.fieldLink RX2 11 "HopMeet$Scene" "users" "[[I", Cond.methodLink RX2 83 yX2_placeByClock, Cond.instanceMethod yX2_placeByClock, Cond.selects RX2 yX2_placeByClock yX2_placeByClock, Cond.code yX2_placeByClock cX2_placeByClock 5 (some .int), Cond.methodLink RX2 65 yX2_aim, Cond.instanceMethod yX2_aim, Cond.selects RX2 yX2_aim yX2_aim, Cond.code yX2_aim cX2_aim 6 (some .int), Cond.fieldLink RX2 23 "HopMeet$Scene" "channelCount" "I", Cond.fieldLink RX2 31 "HopMeet$Scene" "prime" "I", Cond.methodLink RX2 54 yX2_remainder, Cond.static yX2_remainder, Cond.code yX2_remainder cX2_remainder 2 (some .int), Cond.methodLink RX2 58 yX2_aimOfJumpAndStay, Cond.instanceMethod yX2_aimOfJumpAndStay, Cond.selects RX2 yX2_aimOfJumpAndStay yX2_aimOfJumpAndStay, Cond.code yX2_aimOfJumpAndStay cX2_aimOfJumpAndStay 8 (some .int), Cond.methodLink RX2 62 yX2_quotient]
def wsX2_place_r2 : List Cond := [Cond.static yX2_quotient, Cond.code yX2_quotient cX2_quotient 2 (some .int), Cond.methodLink RX2 68 yX2_holds, Cond.static yX2_holds, Cond.code yX2_holds cX2_holds 2 (some .boolean), Cond.methodLink RX2 72 yJ6_bitCount_0f7a4, Cond.static yJ6_bitCount_0f7a4, Cond.initialized RJ6, Cond.code yJ6_bitCount_0f7a4 cJ6_bitCount_0f7a4 1 (some .int), Cond.constant RJ6 265 (1431655765), Cond.constant RJ6 266 (858993459), Cond.constant RJ6 267 (252645135), Cond.methodLink RX2 77 yX2_memberWithNumber, Cond.static yX2_memberWithNumber, Cond.code yX2_memberWithNumber cX2_memberWithNumber 4 (some .int), Cond.methodLink RX2 86 yX2_isShut, Cond.instanceMethod yX2_isShut, Cond.selects RX2 yX2_isShut yX2_isShut, Cond.code yX2_isShut cX2_isShut 8 (some .boolean), Cond.fieldLink RX2 37 "HopMeet$Scene" "spellCount" "I", Cond.fieldLink RX2 16 "HopMeet$Scene" "spells" "[[I"]
def wsX2_place : List Cond := .code yX2_place cX2_place 5 (some .int) :: ((wsX2_place_r1 ++ wsX2_place_r2) ++ wsX20)
def wsX0_join : List Cond := .code yX0_join cX0_join 4 none :: ([.fieldLink RX0 22 "HopMeet$Groups" "userCount" "I", .fieldLink RX0 9 "HopMeet$Groups" "least" "[I"] ++ wsX00)
def wsX0_settle : List Cond := .code yX0_settle cX0_settle 3 none :: ([.fieldLink RX0 15 "HopMeet$Groups" "leaderOn" "[I", .methodLink RX0 35 yX0_join, .instanceMethod yX0_join, .selects RX0 yX0_join yX0_join, .initialized RX0, .code yX0_join cX0_join 4 none, .fieldLink RX0 22 "HopMeet$Groups" "userCount" "I", .fieldLink RX0 9 "HopMeet$Groups" "least" "[I"] ++ wsX00)
def wsX0_runSlot_r1 : List Cond := [Cond.fieldLink RX0 15 "HopMeet$Groups" "leaderOn" "[I", Cond.fieldLink RX0 22 "HopMeet$Groups" "userCount" "I", Cond.fieldLink RX0 9 "HopMeet$Groups" "least" "[I", Cond.fieldLink RX0 18 "HopMeet$Groups" "slotsRun" "I", Cond.methodLink RX0 25 yX2_place, Cond.instanceMethod yX2_place, Cond.selects RX2 yX2_place yX2_place, Cond.initialized RX2, Cond.code yX2_place cX2_place 5 (some .int), Cond.methodLink RX2 80 yX2_clockOf, Cond.instanceMethod yX2_clockOf, Cond.selects RX2 yX2_clockOf yX2_clockOf, Cond.code yX2_clockOf cX2_clockOf 3 (some .int), Cond.fieldLink RX2 11 "HopMeet$Scene" "users" "[[I", Cond.methodLink RX2 83 yX2_placeByClock, Cond.instanceMethod yX2_placeByClock, Cond.selects RX2 yX2_placeByClock yX2_placeByClock, Cond.code yX2_placeByClock cX2_placeByClock 5 (some .int), Cond.methodLink RX2 65 yX2_aim, Cond.instanceMethod yX2_aim, Cond.selects RX2 yX2_aim yX2_aim, Cond.code yX2_aim cX2_aim 6 (some .int), Cond.fieldLink RX2 23 "HopMeet$Scene" "channelCount" "I", Cond.fieldLink RX2 31 "HopMeet$Scene" "prime" "I"]
def wsX0_runSlot_r2 : List Cond := [Cond.methodLink RX2 54 yX2_remainder, Cond.static yX2_remainder, Cond.code yX2_remainder cX2_remainder 2 (some .int), Cond.methodLink RX2 58 yX2_aimOfJumpAndStay, Cond.instanceMethod yX2_aimOfJumpAndStay, Cond.selects RX2 yX2_aimOfJumpAndStay yX2_aimOfJumpAndStay, Cond.code yX2_aimOfJumpAndStay cX2_aimOfJumpAndStay 8 (some .int), Cond.methodLink RX2 62 yX2_quotient, Cond.static yX2_quotient, Cond.code yX2_quotient cX2_quotient 2 (some .int), Cond.methodLink RX2 68 yX2_holds, Cond.static yX2_holds, Cond.code yX2_holds cX2_holds 2 (some .boolean), Cond.methodLink RX2 72 yJ6_bitCount_0f7a4, Cond.static yJ6_bitCount_0f7a4, Cond.initialized RJ6, Cond.code yJ6_bitCount_0f7a4 cJ6_bitCount_0f7a4 1 (some .int), Cond.constant RJ6 265 (1431655765), Cond.constant RJ6 266 (858993459), Cond.constant RJ6 267 (252645135), Cond.methodLink RX2 77 yX2_memberWithNumber, Cond.static yX2_memberWithNumber, Cond.code yX2_memberWithNumber cX2_memberWithNumber 4 (some .int), Cond.methodLink RX2 86 yX2_isShut]
def wsX0_runSlot_r3 : List Cond := [Cond.instanceMethod yX2_isShut, Cond.selects RX2 yX2_isShut yX2_isShut, Cond.code yX2_isShut cX2_isShut 8 (some .boolean), Cond.fieldLink RX2 37 "HopMeet$Scene" "spellCount" "I", Cond.fieldLink RX2 16 "HopMeet$Scene" "spells" "[[I", Cond.methodLink RX0 31 yX0_settle, Cond.instanceMethod yX0_settle, Cond.selects RX0 yX0_settle yX0_settle, Cond.initialized RX0, Cond.code yX0_settle cX0_settle 3 none, Cond.methodLink RX0 35 yX0_join, Cond.instanceMethod yX0_join, Cond.selects RX0 yX0_join yX0_join, Cond.code yX0_join cX0_join 4 none]
def wsX0_runSlot : List Cond := .code yX0_runSlot cX0_runSlot 3 none :: ((wsX0_runSlot_r1 ++ (wsX0_runSlot_r2 ++ wsX0_runSlot_r3)) ++ wsX00 ++ wsX20)
def wsX2_isPrime : List Cond := .code yX2_isPrime cX2_isPrime 2 (some .boolean) :: ([])
def wsX2_primeAbove : List Cond := .code yX2_primeAbove cX2_primeAbove 2 (some .int) :: ([.methodLink RX2 93 yX2_isPrime, .static yX2_isPrime, .initialized RX2, .code yX2_isPrime cX2_isPrime 2 (some .boolean)])
def wsX2_clear : List Cond := .code yX2_clear cX2_clear 2 none :: ([.fieldLink RX2 23 "HopMeet$Scene" "channelCount" "I", .fieldLink RX2 31 "HopMeet$Scene" "prime" "I", .fieldLink RX2 34 "HopMeet$Scene" "userCount" "I", .fieldLink RX2 37 "HopMeet$Scene" "spellCount" "I", .methodLink RX2 27 yX2_primeAbove, .static yX2_primeAbove, .initialized RX2, .code yX2_primeAbove cX2_primeAbove 2 (some .int), .methodLink RX2 93 yX2_isPrime, .static yX2_isPrime, .code yX2_isPrime cX2_isPrime 2 (some .boolean)] ++ wsX20)
def wsX2_init : List Cond := .code yX2_init cX2_init 1 none :: ([.methodLink RX2 3 objectInit, .instanceMethod objectInit, .code objectInit ⟨#[0xb1]⟩ 1 none, .classLink RX2 9 "[[I", .arrayClass .int, .fieldLink RX2 11 "HopMeet$Scene" "users" "[[I", .fieldLink RX2 16 "HopMeet$Scene" "spells" "[[I", .methodLink RX2 19 yX2_clear, .instanceMethod yX2_clear, .selects RX2 yX2_clear yX2_clear, .initialized RX2, .code yX2_clear cX2_clear 2 none, .fieldLink RX2 23 "HopMeet$Scene" "channelCount" "I", .fieldLink RX2 31 "HopMeet$Scene" "prime" "I", .fieldLink RX2 34 "HopMeet$Scene" "userCount" "I", .fieldLink RX2 37 "HopMeet$Scene" "spellCount" "I", .methodLink RX2 27 yX2_primeAbove, .static yX2_primeAbove, .code yX2_primeAbove cX2_primeAbove 2 (some .int), .methodLink RX2 93 yX2_isPrime, .static yX2_isPrime, .code yX2_isPrime cX2_isPrime 2 (some .boolean)] ++ wsX20)
def wsX1_init_r1 : List Cond := [Cond.methodLink RX1 3 objectInit, Cond.instanceMethod objectInit, Cond.code objectInit ⟨#[0xb1]⟩ 1 none, Cond.classLink RX1 9 RX2, Cond.fieldLink RX1 11 "HopMeet$Past" "scenes" "[LHopMeet$Scene;", Cond.instantiable RX2 6, Cond.initialized RX2, Cond.methodLink RX1 17 yX2_init, Cond.instanceMethod yX2_init, Cond.code yX2_init cX2_init 1 none, Cond.methodLink RX2 3 objectInit, Cond.classLink RX2 9 "[[I", Cond.arrayClass .int, Cond.fieldLink RX2 11 "HopMeet$Scene" "users" "[[I", Cond.fieldLink RX2 16 "HopMeet$Scene" "spells" "[[I", Cond.methodLink RX2 19 yX2_clear, Cond.instanceMethod yX2_clear, Cond.selects RX2 yX2_clear yX2_clear, Cond.code yX2_clear cX2_clear 2 none, Cond.fieldLink RX2 23 "HopMeet$Scene" "channelCount" "I", Cond.fieldLink RX2 31 "HopMeet$Scene" "prime" "I", Cond.fieldLink RX2 34 "HopMeet$Scene" "userCount" "I", Cond.fieldLink RX2 37 "HopMeet$Scene" "spellCount" "I", Cond.methodLink RX2 27 yX2_primeAbove]
def wsX1_init_r2 : List Cond := [Cond.static yX2_primeAbove, Cond.code yX2_primeAbove cX2_primeAbove 2 (some .int), Cond.methodLink RX2 93 yX2_isPrime, Cond.static yX2_isPrime, Cond.code yX2_isPrime cX2_isPrime 2 (some .boolean)]
def wsX1_init : List Cond := .code yX1_init cX1_init 2 none :: ((wsX1_init_r1 ++ wsX1_init_r2) ++ wsX10 ++ wsX20)
def wsX1_forget : List Cond := .code yX1_forget cX1_forget 1 none :: ([.fieldLink RX1 18 "HopMeet$Past" "next" "I", .fieldLink RX1 22 "HopMeet$Past" "count" "I"] ++ wsX10)
def wsX2_become : List Cond := .code yX2_become cX2_become 3 none :: ([.fieldLink RX2 23 "HopMeet$Scene" "channelCount" "I", .fieldLink RX2 31 "HopMeet$Scene" "prime" "I", .fieldLink RX2 34 "HopMeet$Scene" "userCount" "I", .fieldLink RX2 37 "HopMeet$Scene" "spellCount" "I", .fieldLink RX2 11 "HopMeet$Scene" "users" "[[I", .methodLink RX2 40 arraycopyName, .native arraycopyName, .static arraycopyName, .initialized "java/lang/System", .fieldLink RX2 16 "HopMeet$Scene" "spells" "[[I"] ++ wsX20)
def wsX1_remember : List Cond := .code yX1_remember cX1_remember 2 none :: ([.fieldLink RX1 11 "HopMeet$Past" "scenes" "[LHopMeet$Scene;", .fieldLink RX1 18 "HopMeet$Past" "next" "I", .fieldLink RX1 22 "HopMeet$Past" "count" "I", .methodLink RX1 29 Lib.Math.min.name, .static Lib.Math.min.name, .initialized "java/lang/Math", .code Lib.Math.min.name Lib.Math.min.code 2 (some .int), .methodLink RX1 25 yX2_become, .instanceMethod yX2_become, .selects RX2 yX2_become yX2_become, .initialized RX2, .code yX2_become cX2_become 3 none, .fieldLink RX2 23 "HopMeet$Scene" "channelCount" "I", .fieldLink RX2 31 "HopMeet$Scene" "prime" "I", .fieldLink RX2 34 "HopMeet$Scene" "userCount" "I", .fieldLink RX2 37 "HopMeet$Scene" "spellCount" "I", .fieldLink RX2 11 "HopMeet$Scene" "users" "[[I", .methodLink RX2 40 arraycopyName, .native arraycopyName, .static arraycopyName, .initialized "java/lang/System", .fieldLink RX2 16 "HopMeet$Scene" "spells" "[[I"] ++ wsX10 ++ wsX20)
def wsX1_restore : List Cond := .code yX1_restore cX1_restore 2 none :: ([.fieldLink RX1 18 "HopMeet$Past" "next" "I", .fieldLink RX1 11 "HopMeet$Past" "scenes" "[LHopMeet$Scene;", .fieldLink RX1 22 "HopMeet$Past" "count" "I", .methodLink RX1 25 yX2_become, .instanceMethod yX2_become, .selects RX2 yX2_become yX2_become, .initialized RX2, .code yX2_become cX2_become 3 none, .fieldLink RX2 23 "HopMeet$Scene" "channelCount" "I", .fieldLink RX2 31 "HopMeet$Scene" "prime" "I", .fieldLink RX2 34 "HopMeet$Scene" "userCount" "I", .fieldLink RX2 37 "HopMeet$Scene" "spellCount" "I", .fieldLink RX2 11 "HopMeet$Scene" "users" "[[I", .methodLink RX2 40 arraycopyName, .native arraycopyName, .static arraycopyName, .initialized "java/lang/System", .fieldLink RX2 16 "HopMeet$Scene" "spells" "[[I"] ++ wsX10 ++ wsX20)
def wsX2_allChannels : List Cond := .code yX2_allChannels cX2_allChannels 1 (some .int) :: ([.fieldLink RX2 23 "HopMeet$Scene" "channelCount" "I"] ++ wsX20)
def wsX2_addUser : List Cond := .code yX2_addUser cX2_addUser 6 none :: ([.fieldLink RX2 11 "HopMeet$Scene" "users" "[[I", .fieldLink RX2 34 "HopMeet$Scene" "userCount" "I", .methodLink RX2 46 yX2_allChannels, .instanceMethod yX2_allChannels, .selects RX2 yX2_allChannels yX2_allChannels, .initialized RX2, .code yX2_allChannels cX2_allChannels 1 (some .int), .fieldLink RX2 23 "HopMeet$Scene" "channelCount" "I"] ++ wsX20)
def wsX2_addSpell : List Cond := .code yX2_addSpell cX2_addSpell 6 none :: ([.fieldLink RX2 16 "HopMeet$Scene" "spells" "[[I", .fieldLink RX2 37 "HopMeet$Scene" "spellCount" "I"] ++ wsX20)
def wsX2_nextLot : List Cond := .code yX2_nextLot cX2_nextLot 2 (some .long) :: ([.constantLong RX2 97 (16807), .constantLong RX2 99 (2147483647)])
def wsX2_drawLots : List Cond := .code yX2_drawLots cX2_drawLots 7 none :: ([.fieldLink RX2 34 "HopMeet$Scene" "userCount" "I", .fieldLink RX2 11 "HopMeet$Scene" "users" "[[I", .methodLink RX2 46 yX2_allChannels, .instanceMethod yX2_allChannels, .selects RX2 yX2_allChannels yX2_allChannels, .initialized RX2, .code yX2_allChannels cX2_allChannels 1 (some .int), .fieldLink RX2 23 "HopMeet$Scene" "channelCount" "I", .methodLink RX2 50 yX2_nextLot, .static yX2_nextLot, .code yX2_nextLot cX2_nextLot 2 (some .long), .constantLong RX2 97 (16807), .constantLong RX2 99 (2147483647), .methodLink RX2 54 yX2_remainder, .static yX2_remainder, .code yX2_remainder cX2_remainder 2 (some .int)] ++ wsX20)
def wsX2_commonChannels : List Cond := .code yX2_commonChannels cX2_commonChannels 3 (some .int) :: ([.fieldLink RX2 34 "HopMeet$Scene" "userCount" "I", .fieldLink RX2 11 "HopMeet$Scene" "users" "[[I", .methodLink RX2 46 yX2_allChannels, .instanceMethod yX2_allChannels, .selects RX2 yX2_allChannels yX2_allChannels, .initialized RX2, .code yX2_allChannels cX2_allChannels 1 (some .int), .fieldLink RX2 23 "HopMeet$Scene" "channelCount" "I"] ++ wsX20)
def wsX2_whyNowhere_r1 : List Cond := [Cond.methodLink RX2 80 yX2_clockOf, Cond.instanceMethod yX2_clockOf, Cond.selects RX2 yX2_clockOf yX2_clockOf, Cond.initialized RX2, Cond.code yX2_clockOf cX2_clockOf 3 (some .int), Cond.fieldLink RX2 11 "HopMeet$Scene" "users" "[[I", Cond.methodLink RX2 83 yX2_placeByClock, Cond.instanceMethod yX2_placeByClock, Cond.selects RX2 yX2_placeByClock yX2_placeByClock, Cond.code yX2_placeByClock cX2_placeByClock 5 (some .int), Cond.methodLink RX2 65 yX2_aim, Cond.instanceMethod yX2_aim, Cond.selects RX2 yX2_aim yX2_aim, Cond.code yX2_aim cX2_aim 6 (some .int), Cond.fieldLink RX2 23 "HopMeet$Scene" "channelCount" "I", Cond.fieldLink RX2 31 "HopMeet$Scene" "prime" "I", Cond.methodLink RX2 54 yX2_remainder, Cond.static yX2_remainder, Cond.code yX2_remainder cX2_remainder 2 (some .int), Cond.methodLink RX2 58 yX2_aimOfJumpAndStay, Cond.instanceMethod yX2_aimOfJumpAndStay, Cond.selects RX2 yX2_aimOfJumpAndStay yX2_aimOfJumpAndStay, Cond.code yX2_aimOfJumpAndStay cX2_aimOfJumpAndStay 8 (some .int), Cond.methodLink RX2 62 yX2_quotient]
def wsX2_whyNowhere_r2 : List Cond := [Cond.static yX2_quotient, Cond.code yX2_quotient cX2_quotient 2 (some .int), Cond.methodLink RX2 68 yX2_holds, Cond.static yX2_holds, Cond.code yX2_holds cX2_holds 2 (some .boolean), Cond.methodLink RX2 72 yJ6_bitCount_0f7a4, Cond.static yJ6_bitCount_0f7a4, Cond.initialized RJ6, Cond.code yJ6_bitCount_0f7a4 cJ6_bitCount_0f7a4 1 (some .int), Cond.constant RJ6 265 (1431655765), Cond.constant RJ6 266 (858993459), Cond.constant RJ6 267 (252645135), Cond.methodLink RX2 77 yX2_memberWithNumber, Cond.static yX2_memberWithNumber, Cond.code yX2_memberWithNumber cX2_memberWithNumber 4 (some .int), Cond.methodLink RX2 86 yX2_isShut, Cond.instanceMethod yX2_isShut, Cond.selects RX2 yX2_isShut yX2_isShut, Cond.code yX2_isShut cX2_isShut 8 (some .boolean), Cond.fieldLink RX2 37 "HopMeet$Scene" "spellCount" "I", Cond.fieldLink RX2 16 "HopMeet$Scene" "spells" "[[I"]
def wsX2_whyNowhere : List Cond := .code yX2_whyNowhere cX2_whyNowhere 5 (some .int) :: ((wsX2_whyNowhere_r1 ++ wsX2_whyNowhere_r2) ++ wsX20)
def wsX2_meet_r1 : List Cond := [Cond.methodLink RX2 90 yX2_place, Cond.instanceMethod yX2_place, Cond.selects RX2 yX2_place yX2_place, Cond.initialized RX2, Cond.code yX2_place cX2_place 5 (some .int), Cond.methodLink RX2 80 yX2_clockOf, Cond.instanceMethod yX2_clockOf, Cond.selects RX2 yX2_clockOf yX2_clockOf, Cond.code yX2_clockOf cX2_clockOf 3 (some .int), Cond.fieldLink RX2 11 "HopMeet$Scene" "users" "[[I", Cond.methodLink RX2 83 yX2_placeByClock, Cond.instanceMethod yX2_placeByClock, Cond.selects RX2 yX2_placeByClock yX2_placeByClock, Cond.code yX2_placeByClock cX2_placeByClock 5 (some .int), Cond.methodLink RX2 65 yX2_aim, Cond.instanceMethod yX2_aim, Cond.selects RX2 yX2_aim yX2_aim, Cond.code yX2_aim cX2_aim 6 (some .int), Cond.fieldLink RX2 23 "HopMeet$Scene" "channelCount" "I", Cond.fieldLink RX2 31 "HopMeet$Scene" "prime" "I", Cond.methodLink RX2 54 yX2_remainder, Cond.static yX2_remainder, Cond.code yX2_remainder cX2_remainder 2 (some .int), Cond.methodLink RX2 58 yX2_aimOfJumpAndStay]
def wsX2_meet_r2 : List Cond := [Cond.instanceMethod yX2_aimOfJumpAndStay, Cond.selects RX2 yX2_aimOfJumpAndStay yX2_aimOfJumpAndStay, Cond.code yX2_aimOfJumpAndStay cX2_aimOfJumpAndStay 8 (some .int), Cond.methodLink RX2 62 yX2_quotient, Cond.static yX2_quotient, Cond.code yX2_quotient cX2_quotient 2 (some .int), Cond.methodLink RX2 68 yX2_holds, Cond.static yX2_holds, Cond.code yX2_holds cX2_holds 2 (some .boolean), Cond.methodLink RX2 72 yJ6_bitCount_0f7a4, Cond.static yJ6_bitCount_0f7a4, Cond.initialized RJ6, Cond.code yJ6_bitCount_0f7a4 cJ6_bitCount_0f7a4 1 (some .int), Cond.constant RJ6 265 (1431655765), Cond.constant RJ6 266 (858993459), Cond.constant RJ6 267 (252645135), Cond.methodLink RX2 77 yX2_memberWithNumber, Cond.static yX2_memberWithNumber, Cond.code yX2_memberWithNumber cX2_memberWithNumber 4 (some .int), Cond.methodLink RX2 86 yX2_isShut, Cond.instanceMethod yX2_isShut, Cond.selects RX2 yX2_isShut yX2_isShut, Cond.code yX2_isShut cX2_isShut 8 (some .boolean), Cond.fieldLink RX2 37 "HopMeet$Scene" "spellCount" "I"]
def wsX2_meet_r3 : List Cond := [Cond.fieldLink RX2 16 "HopMeet$Scene" "spells" "[[I"]
def wsX2_meet : List Cond := .code yX2_meet cX2_meet 5 (some .boolean) :: ((wsX2_meet_r1 ++ (wsX2_meet_r2 ++ wsX2_meet_r3)) ++ wsX20)
def wsX3_init_r1 : List Cond := [Cond.methodLink RX3 1 objectInit, Cond.instanceMethod objectInit, Cond.code objectInit ⟨#[0xb1]⟩ 1 none, Cond.classLink RX3 7 RX2, Cond.instantiable RX2 6, Cond.initialized RX2, Cond.fieldLink RX3 10 "HopMeet" "now" "LHopMeet$Scene;", Cond.classLink RX3 16 RX1, Cond.instantiable RX1 3, Cond.initialized RX1, Cond.fieldLink RX3 19 "HopMeet" "past" "LHopMeet$Past;", Cond.fieldLink RX3 23 "HopMeet" "images" "[LHopMeet$Scene;", Cond.arrayClass .boolean, Cond.fieldLink RX3 27 "HopMeet" "wasKept" "[Z", Cond.classLink RX3 31 RX0, Cond.instantiable RX0 4, Cond.initialized RX0, Cond.fieldLink RX3 34 "HopMeet" "groups" "LHopMeet$Groups;", Cond.arrayClass .int, Cond.fieldLink RX3 38 "HopMeet" "placesOfFirst" "[I", Cond.fieldLink RX3 42 "HopMeet" "placesOfSecond" "[I", Cond.fieldLink RX3 45 "HopMeet" "timesOn" "[I", Cond.methodLink RX3 9 yX2_init, Cond.instanceMethod yX2_init]
def wsX3_init_r2 : List Cond := [Cond.code yX2_init cX2_init 1 none, Cond.methodLink RX2 3 objectInit, Cond.classLink RX2 9 "[[I", Cond.fieldLink RX2 11 "HopMeet$Scene" "users" "[[I", Cond.fieldLink RX2 16 "HopMeet$Scene" "spells" "[[I", Cond.methodLink RX2 19 yX2_clear, Cond.instanceMethod yX2_clear, Cond.selects RX2 yX2_clear yX2_clear, Cond.code yX2_clear cX2_clear 2 none, Cond.fieldLink RX2 23 "HopMeet$Scene" "channelCount" "I", Cond.fieldLink RX2 31 "HopMeet$Scene" "prime" "I", Cond.fieldLink RX2 34 "HopMeet$Scene" "userCount" "I", Cond.fieldLink RX2 37 "HopMeet$Scene" "spellCount" "I", Cond.methodLink RX2 27 yX2_primeAbove, Cond.static yX2_primeAbove, Cond.code yX2_primeAbove cX2_primeAbove 2 (some .int), Cond.methodLink RX2 93 yX2_isPrime, Cond.static yX2_isPrime, Cond.code yX2_isPrime cX2_isPrime 2 (some .boolean), Cond.methodLink RX3 18 yX1_init, Cond.instanceMethod yX1_init, Cond.code yX1_init cX1_init 2 none, Cond.methodLink RX1 3 objectInit, Cond.classLink RX1 9 RX2]
def wsX3_init_r3 : List Cond := [Cond.fieldLink RX1 11 "HopMeet$Past" "scenes" "[LHopMeet$Scene;", Cond.methodLink RX1 17 yX2_init, Cond.methodLink RX3 33 yX0_init, Cond.instanceMethod yX0_init, Cond.code yX0_init cX0_init 1 none, Cond.methodLink RX0 3 objectInit, Cond.fieldLink RX0 9 "HopMeet$Groups" "least" "[I", Cond.fieldLink RX0 15 "HopMeet$Groups" "leaderOn" "[I"]
def wsX3_init : List Cond := .code yX3_init cX3_init 2 none :: ((wsX3_init_r1 ++ (wsX3_init_r2 ++ wsX3_init_r3)) ++ wsX20 ++ wsX30 ++ wsX10 ++ wsX00)
def wsX3_channels_r1 : List Cond := [Cond.constant RX3 48 (-1000000002), Cond.fieldLink RX3 10 "HopMeet" "now" "LHopMeet$Scene;", Cond.fieldLink RX3 19 "HopMeet" "past" "LHopMeet$Past;", Cond.fieldLink RX3 34 "HopMeet" "groups" "LHopMeet$Groups;", Cond.fieldLink RX3 59 "HopMeet$Scene" "prime" "I", Cond.methodLink RX3 49 yX2_clear, Cond.instanceMethod yX2_clear, Cond.selects RX2 yX2_clear yX2_clear, Cond.initialized RX2, Cond.code yX2_clear cX2_clear 2 none, Cond.fieldLink RX2 23 "HopMeet$Scene" "channelCount" "I", Cond.fieldLink RX2 31 "HopMeet$Scene" "prime" "I", Cond.fieldLink RX2 34 "HopMeet$Scene" "userCount" "I", Cond.fieldLink RX2 37 "HopMeet$Scene" "spellCount" "I", Cond.methodLink RX2 27 yX2_primeAbove, Cond.static yX2_primeAbove, Cond.code yX2_primeAbove cX2_primeAbove 2 (some .int), Cond.methodLink RX2 93 yX2_isPrime, Cond.static yX2_isPrime, Cond.code yX2_isPrime cX2_isPrime 2 (some .boolean), Cond.methodLink RX3 53 yX1_forget, Cond.instanceMethod yX1_forget, Cond.selects RX1 yX1_forget yX1_forget, Cond.initialized RX1]
def wsX3_channels_r2 : List Cond := [Cond.code yX1_forget cX1_forget 1 none, Cond.fieldLink RX1 18 "HopMeet$Past" "next" "I", Cond.fieldLink RX1 22 "HopMeet$Past" "count" "I", Cond.methodLink RX3 56 yX0_begin, Cond.instanceMethod yX0_begin, Cond.selects RX0 yX0_begin yX0_begin, Cond.initialized RX0, Cond.code yX0_begin cX0_begin 3 none, Cond.fieldLink RX0 18 "HopMeet$Groups" "slotsRun" "I", Cond.fieldLink RX0 22 "HopMeet$Groups" "userCount" "I", Cond.fieldLink RX0 9 "HopMeet$Groups" "least" "[I"]
def wsX3_channels : List Cond := .code yX3_channels cX3_channels 2 (some .int) :: ((wsX3_channels_r1 ++ wsX3_channels_r2) ++ wsX30 ++ wsX20 ++ wsX10 ++ wsX00)
def wsX3_mayHave : List Cond := .code yX3_mayHave cX3_mayHave 2 (some .boolean) :: ([.fieldLink RX3 185 "HopMeet" "MOST_OF" "[I"])
def wsX3_user_r1 : List Cond := [Cond.constant RX3 48 (-1000000002), Cond.fieldLink RX3 10 "HopMeet" "now" "LHopMeet$Scene;", Cond.fieldLink RX3 67 "HopMeet$Scene" "userCount" "I", Cond.constant RX3 70 (-1000000004), Cond.fieldLink RX3 19 "HopMeet" "past" "LHopMeet$Past;", Cond.fieldLink RX3 34 "HopMeet" "groups" "LHopMeet$Groups;", Cond.methodLink RX3 63 yX3_mayHave, Cond.static yX3_mayHave, Cond.initialized RX3, Cond.code yX3_mayHave cX3_mayHave 2 (some .boolean), Cond.fieldLink RX3 185 "HopMeet" "MOST_OF" "[I", Cond.methodLink RX3 71 yX1_remember, Cond.instanceMethod yX1_remember, Cond.selects RX1 yX1_remember yX1_remember, Cond.initialized RX1, Cond.code yX1_remember cX1_remember 2 none, Cond.fieldLink RX1 11 "HopMeet$Past" "scenes" "[LHopMeet$Scene;", Cond.fieldLink RX1 18 "HopMeet$Past" "next" "I", Cond.fieldLink RX1 22 "HopMeet$Past" "count" "I", Cond.methodLink RX1 29 Lib.Math.min.name, Cond.static Lib.Math.min.name, Cond.initialized "java/lang/Math", Cond.code Lib.Math.min.name Lib.Math.min.code 2 (some .int), Cond.methodLink RX1 25 yX2_become]
def wsX3_user_r2 : List Cond := [Cond.instanceMethod yX2_become, Cond.selects RX2 yX2_become yX2_become, Cond.initialized RX2, Cond.code yX2_become cX2_become 3 none, Cond.fieldLink RX2 23 "HopMeet$Scene" "channelCount" "I", Cond.fieldLink RX2 31 "HopMeet$Scene" "prime" "I", Cond.fieldLink RX2 34 "HopMeet$Scene" "userCount" "I", Cond.fieldLink RX2 37 "HopMeet$Scene" "spellCount" "I", Cond.fieldLink RX2 11 "HopMeet$Scene" "users" "[[I", Cond.methodLink RX2 40 arraycopyName, Cond.native arraycopyName, Cond.static arraycopyName, Cond.initialized "java/lang/System", Cond.fieldLink RX2 16 "HopMeet$Scene" "spells" "[[I", Cond.methodLink RX3 75 yX2_addUser, Cond.instanceMethod yX2_addUser, Cond.selects RX2 yX2_addUser yX2_addUser, Cond.code yX2_addUser cX2_addUser 6 none, Cond.methodLink RX2 46 yX2_allChannels, Cond.instanceMethod yX2_allChannels, Cond.selects RX2 yX2_allChannels yX2_allChannels, Cond.code yX2_allChannels cX2_allChannels 1 (some .int), Cond.methodLink RX3 56 yX0_begin, Cond.instanceMethod yX0_begin]
def wsX3_user_r3 : List Cond := [Cond.selects RX0 yX0_begin yX0_begin, Cond.initialized RX0, Cond.code yX0_begin cX0_begin 3 none, Cond.fieldLink RX0 18 "HopMeet$Groups" "slotsRun" "I", Cond.fieldLink RX0 22 "HopMeet$Groups" "userCount" "I", Cond.fieldLink RX0 9 "HopMeet$Groups" "least" "[I"]
def wsX3_user : List Cond := .code yX3_user cX3_user 5 (some .int) :: ((wsX3_user_r1 ++ (wsX3_user_r2 ++ wsX3_user_r3)) ++ wsX30 ++ wsX20 ++ wsX10 ++ wsX00)
def wsX3_isUser : List Cond := .code yX3_isUser cX3_isUser 2 (some .boolean) :: ([.fieldLink RX3 10 "HopMeet" "now" "LHopMeet$Scene;", .fieldLink RX3 67 "HopMeet$Scene" "userCount" "I"] ++ wsX30 ++ wsX20)
def wsX3_change_r1 : List Cond := [Cond.fieldLink RX3 19 "HopMeet" "past" "LHopMeet$Past;", Cond.fieldLink RX3 10 "HopMeet" "now" "LHopMeet$Scene;", Cond.fieldLink RX3 128 "HopMeet$Scene" "users" "[[I", Cond.fieldLink RX3 34 "HopMeet" "groups" "LHopMeet$Groups;", Cond.fieldLink RX3 67 "HopMeet$Scene" "userCount" "I", Cond.methodLink RX3 71 yX1_remember, Cond.instanceMethod yX1_remember, Cond.selects RX1 yX1_remember yX1_remember, Cond.initialized RX1, Cond.code yX1_remember cX1_remember 2 none, Cond.fieldLink RX1 11 "HopMeet$Past" "scenes" "[LHopMeet$Scene;", Cond.fieldLink RX1 18 "HopMeet$Past" "next" "I", Cond.fieldLink RX1 22 "HopMeet$Past" "count" "I", Cond.methodLink RX1 29 Lib.Math.min.name, Cond.static Lib.Math.min.name, Cond.initialized "java/lang/Math", Cond.code Lib.Math.min.name Lib.Math.min.code 2 (some .int), Cond.methodLink RX1 25 yX2_become, Cond.instanceMethod yX2_become, Cond.selects RX2 yX2_become yX2_become, Cond.initialized RX2, Cond.code yX2_become cX2_become 3 none, Cond.fieldLink RX2 23 "HopMeet$Scene" "channelCount" "I", Cond.fieldLink RX2 31 "HopMeet$Scene" "prime" "I"]
def wsX3_change_r2 : List Cond := [Cond.fieldLink RX2 34 "HopMeet$Scene" "userCount" "I", Cond.fieldLink RX2 37 "HopMeet$Scene" "spellCount" "I", Cond.fieldLink RX2 11 "HopMeet$Scene" "users" "[[I", Cond.methodLink RX2 40 arraycopyName, Cond.native arraycopyName, Cond.static arraycopyName, Cond.initialized "java/lang/System", Cond.fieldLink RX2 16 "HopMeet$Scene" "spells" "[[I", Cond.methodLink RX3 56 yX0_begin, Cond.instanceMethod yX0_begin, Cond.selects RX0 yX0_begin yX0_begin, Cond.initialized RX0, Cond.code yX0_begin cX0_begin 3 none, Cond.fieldLink RX0 18 "HopMeet$Groups" "slotsRun" "I", Cond.fieldLink RX0 22 "HopMeet$Groups" "userCount" "I", Cond.fieldLink RX0 9 "HopMeet$Groups" "least" "[I"]
def wsX3_change : List Cond := .code yX3_change cX3_change 5 (some .int) :: ((wsX3_change_r1 ++ wsX3_change_r2) ++ wsX30 ++ wsX20 ++ wsX10 ++ wsX00)
def wsX3_open_r1 : List Cond := [Cond.constant RX3 83 (-1000000001), Cond.fieldLink RX3 10 "HopMeet" "now" "LHopMeet$Scene;", Cond.constant RX3 48 (-1000000002), Cond.methodLink RX3 79 yX3_isUser, Cond.instanceMethod yX3_isUser, Cond.selects RX3 yX3_isUser yX3_isUser, Cond.initialized RX3, Cond.code yX3_isUser cX3_isUser 2 (some .boolean), Cond.fieldLink RX3 67 "HopMeet$Scene" "userCount" "I", Cond.methodLink RX3 84 yX2_allChannels, Cond.instanceMethod yX2_allChannels, Cond.selects RX2 yX2_allChannels yX2_allChannels, Cond.initialized RX2, Cond.code yX2_allChannels cX2_allChannels 1 (some .int), Cond.fieldLink RX2 23 "HopMeet$Scene" "channelCount" "I", Cond.methodLink RX3 88 yX3_change, Cond.instanceMethod yX3_change, Cond.selects RX3 yX3_change yX3_change, Cond.code yX3_change cX3_change 5 (some .int), Cond.fieldLink RX3 19 "HopMeet" "past" "LHopMeet$Past;", Cond.fieldLink RX3 128 "HopMeet$Scene" "users" "[[I", Cond.fieldLink RX3 34 "HopMeet" "groups" "LHopMeet$Groups;", Cond.methodLink RX3 71 yX1_remember, Cond.instanceMethod yX1_remember]
def wsX3_open_r2 : List Cond := [Cond.selects RX1 yX1_remember yX1_remember, Cond.initialized RX1, Cond.code yX1_remember cX1_remember 2 none, Cond.fieldLink RX1 11 "HopMeet$Past" "scenes" "[LHopMeet$Scene;", Cond.fieldLink RX1 18 "HopMeet$Past" "next" "I", Cond.fieldLink RX1 22 "HopMeet$Past" "count" "I", Cond.methodLink RX1 29 Lib.Math.min.name, Cond.static Lib.Math.min.name, Cond.initialized "java/lang/Math", Cond.code Lib.Math.min.name Lib.Math.min.code 2 (some .int), Cond.methodLink RX1 25 yX2_become, Cond.instanceMethod yX2_become, Cond.selects RX2 yX2_become yX2_become, Cond.code yX2_become cX2_become 3 none, Cond.fieldLink RX2 31 "HopMeet$Scene" "prime" "I", Cond.fieldLink RX2 34 "HopMeet$Scene" "userCount" "I", Cond.fieldLink RX2 37 "HopMeet$Scene" "spellCount" "I", Cond.fieldLink RX2 11 "HopMeet$Scene" "users" "[[I", Cond.methodLink RX2 40 arraycopyName, Cond.native arraycopyName, Cond.static arraycopyName, Cond.initialized "java/lang/System", Cond.fieldLink RX2 16 "HopMeet$Scene" "spells" "[[I", Cond.methodLink RX3 56 yX0_begin]
def wsX3_open_r3 : List Cond := [Cond.instanceMethod yX0_begin, Cond.selects RX0 yX0_begin yX0_begin, Cond.initialized RX0, Cond.code yX0_begin cX0_begin 3 none, Cond.fieldLink RX0 18 "HopMeet$Groups" "slotsRun" "I", Cond.fieldLink RX0 22 "HopMeet$Groups" "userCount" "I", Cond.fieldLink RX0 9 "HopMeet$Groups" "least" "[I"]
def wsX3_open : List Cond := .code yX3_open cX3_open 3 (some .int) :: ((wsX3_open_r1 ++ (wsX3_open_r2 ++ wsX3_open_r3)) ++ wsX30 ++ wsX20 ++ wsX10 ++ wsX00)
def wsX3_set_r1 : List Cond := [Cond.constant RX3 83 (-1000000001), Cond.constant RX3 48 (-1000000002), Cond.methodLink RX3 79 yX3_isUser, Cond.instanceMethod yX3_isUser, Cond.selects RX3 yX3_isUser yX3_isUser, Cond.initialized RX3, Cond.code yX3_isUser cX3_isUser 2 (some .boolean), Cond.fieldLink RX3 10 "HopMeet" "now" "LHopMeet$Scene;", Cond.fieldLink RX3 67 "HopMeet$Scene" "userCount" "I", Cond.methodLink RX3 63 yX3_mayHave, Cond.static yX3_mayHave, Cond.code yX3_mayHave cX3_mayHave 2 (some .boolean), Cond.fieldLink RX3 185 "HopMeet" "MOST_OF" "[I", Cond.methodLink RX3 88 yX3_change, Cond.instanceMethod yX3_change, Cond.selects RX3 yX3_change yX3_change, Cond.code yX3_change cX3_change 5 (some .int), Cond.fieldLink RX3 19 "HopMeet" "past" "LHopMeet$Past;", Cond.fieldLink RX3 128 "HopMeet$Scene" "users" "[[I", Cond.fieldLink RX3 34 "HopMeet" "groups" "LHopMeet$Groups;", Cond.methodLink RX3 71 yX1_remember, Cond.instanceMethod yX1_remember, Cond.selects RX1 yX1_remember yX1_remember, Cond.initialized RX1]
def wsX3_set_r2 : List Cond := [Cond.code yX1_remember cX1_remember 2 none, Cond.fieldLink RX1 11 "HopMeet$Past" "scenes" "[LHopMeet$Scene;", Cond.fieldLink RX1 18 "HopMeet$Past" "next" "I", Cond.fieldLink RX1 22 "HopMeet$Past" "count" "I", Cond.methodLink RX1 29 Lib.Math.min.name, Cond.static Lib.Math.min.name, Cond.initialized "java/lang/Math", Cond.code Lib.Math.min.name Lib.Math.min.code 2 (some .int), Cond.methodLink RX1 25 yX2_become, Cond.instanceMethod yX2_become, Cond.selects RX2 yX2_become yX2_become, Cond.initialized RX2, Cond.code yX2_become cX2_become 3 none, Cond.fieldLink RX2 23 "HopMeet$Scene" "channelCount" "I", Cond.fieldLink RX2 31 "HopMeet$Scene" "prime" "I", Cond.fieldLink RX2 34 "HopMeet$Scene" "userCount" "I", Cond.fieldLink RX2 37 "HopMeet$Scene" "spellCount" "I", Cond.fieldLink RX2 11 "HopMeet$Scene" "users" "[[I", Cond.methodLink RX2 40 arraycopyName, Cond.native arraycopyName, Cond.static arraycopyName, Cond.initialized "java/lang/System", Cond.fieldLink RX2 16 "HopMeet$Scene" "spells" "[[I", Cond.methodLink RX3 56 yX0_begin]
def wsX3_set_r3 : List Cond := [Cond.instanceMethod yX0_begin, Cond.selects RX0 yX0_begin yX0_begin, Cond.initialized RX0, Cond.code yX0_begin cX0_begin 3 none, Cond.fieldLink RX0 18 "HopMeet$Groups" "slotsRun" "I", Cond.fieldLink RX0 22 "HopMeet$Groups" "userCount" "I", Cond.fieldLink RX0 9 "HopMeet$Groups" "least" "[I"]
def wsX3_set : List Cond := .code yX3_set cX3_set 4 (some .int) :: ((wsX3_set_r1 ++ (wsX3_set_r2 ++ wsX3_set_r3)) ++ wsX30 ++ wsX20 ++ wsX10 ++ wsX00)
def wsX3_shut_r1 : List Cond := [Cond.constant RX3 83 (-1000000001), Cond.fieldLink RX3 10 "HopMeet" "now" "LHopMeet$Scene;", Cond.fieldLink RX3 92 "HopMeet$Scene" "channelCount" "I", Cond.constant RX3 48 (-1000000002), Cond.fieldLink RX3 95 "HopMeet$Scene" "spellCount" "I", Cond.constant RX3 70 (-1000000004), Cond.fieldLink RX3 19 "HopMeet" "past" "LHopMeet$Past;", Cond.fieldLink RX3 34 "HopMeet" "groups" "LHopMeet$Groups;", Cond.fieldLink RX3 67 "HopMeet$Scene" "userCount" "I", Cond.methodLink RX3 79 yX3_isUser, Cond.instanceMethod yX3_isUser, Cond.selects RX3 yX3_isUser yX3_isUser, Cond.initialized RX3, Cond.code yX3_isUser cX3_isUser 2 (some .boolean), Cond.methodLink RX3 71 yX1_remember, Cond.instanceMethod yX1_remember, Cond.selects RX1 yX1_remember yX1_remember, Cond.initialized RX1, Cond.code yX1_remember cX1_remember 2 none, Cond.fieldLink RX1 11 "HopMeet$Past" "scenes" "[LHopMeet$Scene;", Cond.fieldLink RX1 18 "HopMeet$Past" "next" "I", Cond.fieldLink RX1 22 "HopMeet$Past" "count" "I", Cond.methodLink RX1 29 Lib.Math.min.name, Cond.static Lib.Math.min.name]
def wsX3_shut_r2 : List Cond := [Cond.initialized "java/lang/Math", Cond.code Lib.Math.min.name Lib.Math.min.code 2 (some .int), Cond.methodLink RX1 25 yX2_become, Cond.instanceMethod yX2_become, Cond.selects RX2 yX2_become yX2_become, Cond.initialized RX2, Cond.code yX2_become cX2_become 3 none, Cond.fieldLink RX2 23 "HopMeet$Scene" "channelCount" "I", Cond.fieldLink RX2 31 "HopMeet$Scene" "prime" "I", Cond.fieldLink RX2 34 "HopMeet$Scene" "userCount" "I", Cond.fieldLink RX2 37 "HopMeet$Scene" "spellCount" "I", Cond.fieldLink RX2 11 "HopMeet$Scene" "users" "[[I", Cond.methodLink RX2 40 arraycopyName, Cond.native arraycopyName, Cond.static arraycopyName, Cond.initialized "java/lang/System", Cond.fieldLink RX2 16 "HopMeet$Scene" "spells" "[[I", Cond.methodLink RX3 98 yX2_addSpell, Cond.instanceMethod yX2_addSpell, Cond.selects RX2 yX2_addSpell yX2_addSpell, Cond.code yX2_addSpell cX2_addSpell 6 none, Cond.methodLink RX3 56 yX0_begin, Cond.instanceMethod yX0_begin, Cond.selects RX0 yX0_begin yX0_begin]
def wsX3_shut_r3 : List Cond := [Cond.initialized RX0, Cond.code yX0_begin cX0_begin 3 none, Cond.fieldLink RX0 18 "HopMeet$Groups" "slotsRun" "I", Cond.fieldLink RX0 22 "HopMeet$Groups" "userCount" "I", Cond.fieldLink RX0 9 "HopMeet$Groups" "least" "[I"]
def wsX3_shut : List Cond := .code yX3_shut cX3_shut 5 (some .int) :: ((wsX3_shut_r1 ++ (wsX3_shut_r2 ++ wsX3_shut_r3)) ++ wsX30 ++ wsX20 ++ wsX10 ++ wsX00)
def wsX3_drift_r1 : List Cond := [Cond.constant RX3 101 (999999), Cond.constant RX3 48 (-1000000002), Cond.fieldLink RX3 10 "HopMeet" "now" "LHopMeet$Scene;", Cond.fieldLink RX3 67 "HopMeet$Scene" "userCount" "I", Cond.constant RX3 102 (-1000000003), Cond.fieldLink RX3 19 "HopMeet" "past" "LHopMeet$Past;", Cond.fieldLink RX3 34 "HopMeet" "groups" "LHopMeet$Groups;", Cond.methodLink RX3 71 yX1_remember, Cond.instanceMethod yX1_remember, Cond.selects RX1 yX1_remember yX1_remember, Cond.initialized RX1, Cond.code yX1_remember cX1_remember 2 none, Cond.fieldLink RX1 11 "HopMeet$Past" "scenes" "[LHopMeet$Scene;", Cond.fieldLink RX1 18 "HopMeet$Past" "next" "I", Cond.fieldLink RX1 22 "HopMeet$Past" "count" "I", Cond.methodLink RX1 29 Lib.Math.min.name, Cond.static Lib.Math.min.name, Cond.initialized "java/lang/Math", Cond.code Lib.Math.min.name Lib.Math.min.code 2 (some .int), Cond.methodLink RX1 25 yX2_become, Cond.instanceMethod yX2_become, Cond.selects RX2 yX2_become yX2_become, Cond.initialized RX2, Cond.code yX2_become cX2_become 3 none]
def wsX3_drift_r2 : List Cond := [Cond.fieldLink RX2 23 "HopMeet$Scene" "channelCount" "I", Cond.fieldLink RX2 31 "HopMeet$Scene" "prime" "I", Cond.fieldLink RX2 34 "HopMeet$Scene" "userCount" "I", Cond.fieldLink RX2 37 "HopMeet$Scene" "spellCount" "I", Cond.fieldLink RX2 11 "HopMeet$Scene" "users" "[[I", Cond.methodLink RX2 40 arraycopyName, Cond.native arraycopyName, Cond.static arraycopyName, Cond.initialized "java/lang/System", Cond.fieldLink RX2 16 "HopMeet$Scene" "spells" "[[I", Cond.methodLink RX3 103 yX2_drawLots, Cond.instanceMethod yX2_drawLots, Cond.selects RX2 yX2_drawLots yX2_drawLots, Cond.code yX2_drawLots cX2_drawLots 7 none, Cond.methodLink RX2 46 yX2_allChannels, Cond.instanceMethod yX2_allChannels, Cond.selects RX2 yX2_allChannels yX2_allChannels, Cond.code yX2_allChannels cX2_allChannels 1 (some .int), Cond.methodLink RX2 50 yX2_nextLot, Cond.static yX2_nextLot, Cond.code yX2_nextLot cX2_nextLot 2 (some .long), Cond.constantLong RX2 97 (16807), Cond.constantLong RX2 99 (2147483647), Cond.methodLink RX2 54 yX2_remainder]
def wsX3_drift_r3 : List Cond := [Cond.static yX2_remainder, Cond.code yX2_remainder cX2_remainder 2 (some .int), Cond.methodLink RX3 56 yX0_begin, Cond.instanceMethod yX0_begin, Cond.selects RX0 yX0_begin yX0_begin, Cond.initialized RX0, Cond.code yX0_begin cX0_begin 3 none, Cond.fieldLink RX0 18 "HopMeet$Groups" "slotsRun" "I", Cond.fieldLink RX0 22 "HopMeet$Groups" "userCount" "I", Cond.fieldLink RX0 9 "HopMeet$Groups" "least" "[I", Cond.methodLink RX3 106 yX2_commonChannels, Cond.instanceMethod yX2_commonChannels, Cond.selects RX2 yX2_commonChannels yX2_commonChannels, Cond.code yX2_commonChannels cX2_commonChannels 3 (some .int)]
def wsX3_drift : List Cond := .code yX3_drift cX3_drift 2 (some .int) :: ((wsX3_drift_r1 ++ (wsX3_drift_r2 ++ wsX3_drift_r3)) ++ wsX30 ++ wsX20 ++ wsX10 ++ wsX00)
def wsX3_undo_r1 : List Cond := [Cond.fieldLink RX3 19 "HopMeet" "past" "LHopMeet$Past;", Cond.fieldLink RX3 109 "HopMeet$Past" "count" "I", Cond.constant RX3 102 (-1000000003), Cond.fieldLink RX3 10 "HopMeet" "now" "LHopMeet$Scene;", Cond.fieldLink RX3 34 "HopMeet" "groups" "LHopMeet$Groups;", Cond.fieldLink RX3 67 "HopMeet$Scene" "userCount" "I", Cond.methodLink RX3 112 yX1_restore, Cond.instanceMethod yX1_restore, Cond.selects RX1 yX1_restore yX1_restore, Cond.initialized RX1, Cond.code yX1_restore cX1_restore 2 none, Cond.fieldLink RX1 18 "HopMeet$Past" "next" "I", Cond.fieldLink RX1 11 "HopMeet$Past" "scenes" "[LHopMeet$Scene;", Cond.fieldLink RX1 22 "HopMeet$Past" "count" "I", Cond.methodLink RX1 25 yX2_become, Cond.instanceMethod yX2_become, Cond.selects RX2 yX2_become yX2_become, Cond.initialized RX2, Cond.code yX2_become cX2_become 3 none, Cond.fieldLink RX2 23 "HopMeet$Scene" "channelCount" "I", Cond.fieldLink RX2 31 "HopMeet$Scene" "prime" "I", Cond.fieldLink RX2 34 "HopMeet$Scene" "userCount" "I", Cond.fieldLink RX2 37 "HopMeet$Scene" "spellCount" "I", Cond.fieldLink RX2 11 "HopMeet$Scene" "users" "[[I"]
def wsX3_undo_r2 : List Cond := [Cond.methodLink RX2 40 arraycopyName, Cond.native arraycopyName, Cond.static arraycopyName, Cond.initialized "java/lang/System", Cond.fieldLink RX2 16 "HopMeet$Scene" "spells" "[[I", Cond.methodLink RX3 56 yX0_begin, Cond.instanceMethod yX0_begin, Cond.selects RX0 yX0_begin yX0_begin, Cond.initialized RX0, Cond.code yX0_begin cX0_begin 3 none, Cond.fieldLink RX0 18 "HopMeet$Groups" "slotsRun" "I", Cond.fieldLink RX0 22 "HopMeet$Groups" "userCount" "I", Cond.fieldLink RX0 9 "HopMeet$Groups" "least" "[I"]
def wsX3_undo : List Cond := .code yX3_undo cX3_undo 1 (some .int) :: ((wsX3_undo_r1 ++ wsX3_undo_r2) ++ wsX30 ++ wsX10 ++ wsX20 ++ wsX00)
def wsX3_told_r1 : List Cond := [Cond.fieldLink RX3 10 "HopMeet" "now" "LHopMeet$Scene;", Cond.fieldLink RX3 92 "HopMeet$Scene" "channelCount" "I", Cond.fieldLink RX3 59 "HopMeet$Scene" "prime" "I", Cond.fieldLink RX3 67 "HopMeet$Scene" "userCount" "I", Cond.fieldLink RX3 95 "HopMeet$Scene" "spellCount" "I", Cond.fieldLink RX3 34 "HopMeet" "groups" "LHopMeet$Groups;", Cond.fieldLink RX3 115 "HopMeet$Groups" "slotsRun" "I", Cond.fieldLink RX3 19 "HopMeet" "past" "LHopMeet$Past;", Cond.fieldLink RX3 109 "HopMeet$Past" "count" "I", Cond.constant RX3 48 (-1000000002), Cond.methodLink RX3 106 yX2_commonChannels, Cond.instanceMethod yX2_commonChannels, Cond.selects RX2 yX2_commonChannels yX2_commonChannels, Cond.initialized RX2, Cond.code yX2_commonChannels cX2_commonChannels 3 (some .int), Cond.fieldLink RX2 34 "HopMeet$Scene" "userCount" "I", Cond.fieldLink RX2 11 "HopMeet$Scene" "users" "[[I", Cond.methodLink RX2 46 yX2_allChannels, Cond.instanceMethod yX2_allChannels, Cond.selects RX2 yX2_allChannels yX2_allChannels, Cond.code yX2_allChannels cX2_allChannels 1 (some .int), Cond.fieldLink RX2 23 "HopMeet$Scene" "channelCount" "I", Cond.methodLink RX3 118 yX0_howMany, Cond.instanceMethod yX0_howMany]
def wsX3_told_r2 : List Cond := [Cond.selects RX0 yX0_howMany yX0_howMany, Cond.initialized RX0, Cond.code yX0_howMany cX0_howMany 3 (some .int), Cond.fieldLink RX0 22 "HopMeet$Groups" "userCount" "I", Cond.fieldLink RX0 9 "HopMeet$Groups" "least" "[I"]
def wsX3_told : List Cond := .code yX3_told cX3_told 2 (some .int) :: ((wsX3_told_r1 ++ wsX3_told_r2) ++ wsX30 ++ wsX20 ++ wsX00 ++ wsX10)
def wsX3_userOf : List Cond := .code yX3_userOf cX3_userOf 3 (some .int) :: ([.constant RX3 83 (-1000000001), .constant RX3 48 (-1000000002), .fieldLink RX3 34 "HopMeet" "groups" "LHopMeet$Groups;", .fieldLink RX3 121 "HopMeet$Groups" "least" "[I", .fieldLink RX3 10 "HopMeet" "now" "LHopMeet$Scene;", .fieldLink RX3 128 "HopMeet$Scene" "users" "[[I", .methodLink RX3 79 yX3_isUser, .instanceMethod yX3_isUser, .selects RX3 yX3_isUser yX3_isUser, .initialized RX3, .code yX3_isUser cX3_isUser 2 (some .boolean), .fieldLink RX3 67 "HopMeet$Scene" "userCount" "I", .methodLink RX3 124 yX0_sizeOfGroupOf, .instanceMethod yX0_sizeOfGroupOf, .selects RX0 yX0_sizeOfGroupOf yX0_sizeOfGroupOf, .initialized RX0, .code yX0_sizeOfGroupOf cX0_sizeOfGroupOf 4 (some .int), .fieldLink RX0 22 "HopMeet$Groups" "userCount" "I", .fieldLink RX0 9 "HopMeet$Groups" "least" "[I"] ++ wsX30 ++ wsX00 ++ wsX20)
def wsX3_isSlotAsked : List Cond := .code yX3_isSlotAsked cX3_isSlotAsked 1 (some .boolean) :: ([])
def wsX3_pointsAt_r1 : List Cond := [Cond.constant RX3 83 (-1000000001), Cond.constant RX3 48 (-1000000002), Cond.fieldLink RX3 10 "HopMeet" "now" "LHopMeet$Scene;", Cond.methodLink RX3 79 yX3_isUser, Cond.instanceMethod yX3_isUser, Cond.selects RX3 yX3_isUser yX3_isUser, Cond.initialized RX3, Cond.code yX3_isUser cX3_isUser 2 (some .boolean), Cond.fieldLink RX3 67 "HopMeet$Scene" "userCount" "I", Cond.methodLink RX3 132 yX3_isSlotAsked, Cond.static yX3_isSlotAsked, Cond.code yX3_isSlotAsked cX3_isSlotAsked 1 (some .boolean), Cond.methodLink RX3 135 yX2_clockOf, Cond.instanceMethod yX2_clockOf, Cond.selects RX2 yX2_clockOf yX2_clockOf, Cond.initialized RX2, Cond.code yX2_clockOf cX2_clockOf 3 (some .int), Cond.fieldLink RX2 11 "HopMeet$Scene" "users" "[[I", Cond.methodLink RX3 139 yX2_aim, Cond.instanceMethod yX2_aim, Cond.selects RX2 yX2_aim yX2_aim, Cond.code yX2_aim cX2_aim 6 (some .int), Cond.fieldLink RX2 23 "HopMeet$Scene" "channelCount" "I", Cond.fieldLink RX2 31 "HopMeet$Scene" "prime" "I"]
def wsX3_pointsAt_r2 : List Cond := [Cond.methodLink RX2 54 yX2_remainder, Cond.static yX2_remainder, Cond.code yX2_remainder cX2_remainder 2 (some .int), Cond.methodLink RX2 58 yX2_aimOfJumpAndStay, Cond.instanceMethod yX2_aimOfJumpAndStay, Cond.selects RX2 yX2_aimOfJumpAndStay yX2_aimOfJumpAndStay, Cond.code yX2_aimOfJumpAndStay cX2_aimOfJumpAndStay 8 (some .int), Cond.methodLink RX2 62 yX2_quotient, Cond.static yX2_quotient, Cond.code yX2_quotient cX2_quotient 2 (some .int)]
def wsX3_pointsAt : List Cond := .code yX3_pointsAt cX3_pointsAt 4 (some .int) :: ((wsX3_pointsAt_r1 ++ wsX3_pointsAt_r2) ++ wsX30 ++ wsX20)
def wsX3_on_r1 : List Cond := [Cond.constant RX3 83 (-1000000001), Cond.fieldLink RX3 10 "HopMeet" "now" "LHopMeet$Scene;", Cond.constant RX3 48 (-1000000002), Cond.methodLink RX3 79 yX3_isUser, Cond.instanceMethod yX3_isUser, Cond.selects RX3 yX3_isUser yX3_isUser, Cond.initialized RX3, Cond.code yX3_isUser cX3_isUser 2 (some .boolean), Cond.fieldLink RX3 67 "HopMeet$Scene" "userCount" "I", Cond.methodLink RX3 132 yX3_isSlotAsked, Cond.static yX3_isSlotAsked, Cond.code yX3_isSlotAsked cX3_isSlotAsked 1 (some .boolean), Cond.methodLink RX3 142 yX2_place, Cond.instanceMethod yX2_place, Cond.selects RX2 yX2_place yX2_place, Cond.initialized RX2, Cond.code yX2_place cX2_place 5 (some .int), Cond.methodLink RX2 80 yX2_clockOf, Cond.instanceMethod yX2_clockOf, Cond.selects RX2 yX2_clockOf yX2_clockOf, Cond.code yX2_clockOf cX2_clockOf 3 (some .int), Cond.fieldLink RX2 11 "HopMeet$Scene" "users" "[[I", Cond.methodLink RX2 83 yX2_placeByClock, Cond.instanceMethod yX2_placeByClock]
def wsX3_on_r2 : List Cond := [Cond.selects RX2 yX2_placeByClock yX2_placeByClock, Cond.code yX2_placeByClock cX2_placeByClock 5 (some .int), Cond.methodLink RX2 65 yX2_aim, Cond.instanceMethod yX2_aim, Cond.selects RX2 yX2_aim yX2_aim, Cond.code yX2_aim cX2_aim 6 (some .int), Cond.fieldLink RX2 23 "HopMeet$Scene" "channelCount" "I", Cond.fieldLink RX2 31 "HopMeet$Scene" "prime" "I", Cond.methodLink RX2 54 yX2_remainder, Cond.static yX2_remainder, Cond.code yX2_remainder cX2_remainder 2 (some .int), Cond.methodLink RX2 58 yX2_aimOfJumpAndStay, Cond.instanceMethod yX2_aimOfJumpAndStay, Cond.selects RX2 yX2_aimOfJumpAndStay yX2_aimOfJumpAndStay, Cond.code yX2_aimOfJumpAndStay cX2_aimOfJumpAndStay 8 (some .int), Cond.methodLink RX2 62 yX2_quotient, Cond.static yX2_quotient, Cond.code yX2_quotient cX2_quotient 2 (some .int), Cond.methodLink RX2 68 yX2_holds, Cond.static yX2_holds, Cond.code yX2_holds cX2_holds 2 (some .boolean), Cond.methodLink RX2 72 yJ6_bitCount_0f7a4, Cond.static yJ6_bitCount_0f7a4, Cond.initialized RJ6]
def wsX3_on_r3 : List Cond := [Cond.code yJ6_bitCount_0f7a4 cJ6_bitCount_0f7a4 1 (some .int), Cond.constant RJ6 265 (1431655765), Cond.constant RJ6 266 (858993459), Cond.constant RJ6 267 (252645135), Cond.methodLink RX2 77 yX2_memberWithNumber, Cond.static yX2_memberWithNumber, Cond.code yX2_memberWithNumber cX2_memberWithNumber 4 (some .int), Cond.methodLink RX2 86 yX2_isShut, Cond.instanceMethod yX2_isShut, Cond.selects RX2 yX2_isShut yX2_isShut, Cond.code yX2_isShut cX2_isShut 8 (some .boolean), Cond.fieldLink RX2 37 "HopMeet$Scene" "spellCount" "I", Cond.fieldLink RX2 16 "HopMeet$Scene" "spells" "[[I"]
def wsX3_on : List Cond := .code yX3_on cX3_on 3 (some .int) :: ((wsX3_on_r1 ++ (wsX3_on_r2 ++ wsX3_on_r3)) ++ wsX30 ++ wsX20)
def wsX3_why_r1 : List Cond := [Cond.constant RX3 83 (-1000000001), Cond.fieldLink RX3 10 "HopMeet" "now" "LHopMeet$Scene;", Cond.constant RX3 48 (-1000000002), Cond.methodLink RX3 79 yX3_isUser, Cond.instanceMethod yX3_isUser, Cond.selects RX3 yX3_isUser yX3_isUser, Cond.initialized RX3, Cond.code yX3_isUser cX3_isUser 2 (some .boolean), Cond.fieldLink RX3 67 "HopMeet$Scene" "userCount" "I", Cond.methodLink RX3 132 yX3_isSlotAsked, Cond.static yX3_isSlotAsked, Cond.code yX3_isSlotAsked cX3_isSlotAsked 1 (some .boolean), Cond.methodLink RX3 145 yX2_whyNowhere, Cond.instanceMethod yX2_whyNowhere, Cond.selects RX2 yX2_whyNowhere yX2_whyNowhere, Cond.initialized RX2, Cond.code yX2_whyNowhere cX2_whyNowhere 5 (some .int), Cond.methodLink RX2 80 yX2_clockOf, Cond.instanceMethod yX2_clockOf, Cond.selects RX2 yX2_clockOf yX2_clockOf, Cond.code yX2_clockOf cX2_clockOf 3 (some .int), Cond.fieldLink RX2 11 "HopMeet$Scene" "users" "[[I", Cond.methodLink RX2 83 yX2_placeByClock, Cond.instanceMethod yX2_placeByClock]
def wsX3_why_r2 : List Cond := [Cond.selects RX2 yX2_placeByClock yX2_placeByClock, Cond.code yX2_placeByClock cX2_placeByClock 5 (some .int), Cond.methodLink RX2 65 yX2_aim, Cond.instanceMethod yX2_aim, Cond.selects RX2 yX2_aim yX2_aim, Cond.code yX2_aim cX2_aim 6 (some .int), Cond.fieldLink RX2 23 "HopMeet$Scene" "channelCount" "I", Cond.fieldLink RX2 31 "HopMeet$Scene" "prime" "I", Cond.methodLink RX2 54 yX2_remainder, Cond.static yX2_remainder, Cond.code yX2_remainder cX2_remainder 2 (some .int), Cond.methodLink RX2 58 yX2_aimOfJumpAndStay, Cond.instanceMethod yX2_aimOfJumpAndStay, Cond.selects RX2 yX2_aimOfJumpAndStay yX2_aimOfJumpAndStay, Cond.code yX2_aimOfJumpAndStay cX2_aimOfJumpAndStay 8 (some .int), Cond.methodLink RX2 62 yX2_quotient, Cond.static yX2_quotient, Cond.code yX2_quotient cX2_quotient 2 (some .int), Cond.methodLink RX2 68 yX2_holds, Cond.static yX2_holds, Cond.code yX2_holds cX2_holds 2 (some .boolean), Cond.methodLink RX2 72 yJ6_bitCount_0f7a4, Cond.static yJ6_bitCount_0f7a4, Cond.initialized RJ6]
def wsX3_why_r3 : List Cond := [Cond.code yJ6_bitCount_0f7a4 cJ6_bitCount_0f7a4 1 (some .int), Cond.constant RJ6 265 (1431655765), Cond.constant RJ6 266 (858993459), Cond.constant RJ6 267 (252645135), Cond.methodLink RX2 77 yX2_memberWithNumber, Cond.static yX2_memberWithNumber, Cond.code yX2_memberWithNumber cX2_memberWithNumber 4 (some .int), Cond.methodLink RX2 86 yX2_isShut, Cond.instanceMethod yX2_isShut, Cond.selects RX2 yX2_isShut yX2_isShut, Cond.code yX2_isShut cX2_isShut 8 (some .boolean), Cond.fieldLink RX2 37 "HopMeet$Scene" "spellCount" "I", Cond.fieldLink RX2 16 "HopMeet$Scene" "spells" "[[I"]
def wsX3_why : List Cond := .code yX3_why cX3_why 3 (some .int) :: ((wsX3_why_r1 ++ (wsX3_why_r2 ++ wsX3_why_r3)) ++ wsX30 ++ wsX20)
def wsX3_areTwoUsers : List Cond := .code yX3_areTwoUsers cX3_areTwoUsers 3 (some .boolean) :: ([.methodLink RX3 79 yX3_isUser, .instanceMethod yX3_isUser, .selects RX3 yX3_isUser yX3_isUser, .initialized RX3, .code yX3_isUser cX3_isUser 2 (some .boolean), .fieldLink RX3 10 "HopMeet" "now" "LHopMeet$Scene;", .fieldLink RX3 67 "HopMeet$Scene" "userCount" "I"] ++ wsX30 ++ wsX20)
def wsX3_first_r1 : List Cond := [Cond.constant RX3 83 (-1000000001), Cond.fieldLink RX3 10 "HopMeet" "now" "LHopMeet$Scene;", Cond.methodLink RX3 148 yX3_areTwoUsers, Cond.instanceMethod yX3_areTwoUsers, Cond.selects RX3 yX3_areTwoUsers yX3_areTwoUsers, Cond.initialized RX3, Cond.code yX3_areTwoUsers cX3_areTwoUsers 3 (some .boolean), Cond.methodLink RX3 79 yX3_isUser, Cond.instanceMethod yX3_isUser, Cond.selects RX3 yX3_isUser yX3_isUser, Cond.code yX3_isUser cX3_isUser 2 (some .boolean), Cond.fieldLink RX3 67 "HopMeet$Scene" "userCount" "I", Cond.methodLink RX3 151 yX2_meet, Cond.instanceMethod yX2_meet, Cond.selects RX2 yX2_meet yX2_meet, Cond.initialized RX2, Cond.code yX2_meet cX2_meet 5 (some .boolean), Cond.methodLink RX2 90 yX2_place, Cond.instanceMethod yX2_place, Cond.selects RX2 yX2_place yX2_place, Cond.code yX2_place cX2_place 5 (some .int), Cond.methodLink RX2 80 yX2_clockOf, Cond.instanceMethod yX2_clockOf, Cond.selects RX2 yX2_clockOf yX2_clockOf]
def wsX3_first_r2 : List Cond := [Cond.code yX2_clockOf cX2_clockOf 3 (some .int), Cond.fieldLink RX2 11 "HopMeet$Scene" "users" "[[I", Cond.methodLink RX2 83 yX2_placeByClock, Cond.instanceMethod yX2_placeByClock, Cond.selects RX2 yX2_placeByClock yX2_placeByClock, Cond.code yX2_placeByClock cX2_placeByClock 5 (some .int), Cond.methodLink RX2 65 yX2_aim, Cond.instanceMethod yX2_aim, Cond.selects RX2 yX2_aim yX2_aim, Cond.code yX2_aim cX2_aim 6 (some .int), Cond.fieldLink RX2 23 "HopMeet$Scene" "channelCount" "I", Cond.fieldLink RX2 31 "HopMeet$Scene" "prime" "I", Cond.methodLink RX2 54 yX2_remainder, Cond.static yX2_remainder, Cond.code yX2_remainder cX2_remainder 2 (some .int), Cond.methodLink RX2 58 yX2_aimOfJumpAndStay, Cond.instanceMethod yX2_aimOfJumpAndStay, Cond.selects RX2 yX2_aimOfJumpAndStay yX2_aimOfJumpAndStay, Cond.code yX2_aimOfJumpAndStay cX2_aimOfJumpAndStay 8 (some .int), Cond.methodLink RX2 62 yX2_quotient, Cond.static yX2_quotient, Cond.code yX2_quotient cX2_quotient 2 (some .int), Cond.methodLink RX2 68 yX2_holds, Cond.static yX2_holds]
def wsX3_first_r3 : List Cond := [Cond.code yX2_holds cX2_holds 2 (some .boolean), Cond.methodLink RX2 72 yJ6_bitCount_0f7a4, Cond.static yJ6_bitCount_0f7a4, Cond.initialized RJ6, Cond.code yJ6_bitCount_0f7a4 cJ6_bitCount_0f7a4 1 (some .int), Cond.constant RJ6 265 (1431655765), Cond.constant RJ6 266 (858993459), Cond.constant RJ6 267 (252645135), Cond.methodLink RX2 77 yX2_memberWithNumber, Cond.static yX2_memberWithNumber, Cond.code yX2_memberWithNumber cX2_memberWithNumber 4 (some .int), Cond.methodLink RX2 86 yX2_isShut, Cond.instanceMethod yX2_isShut, Cond.selects RX2 yX2_isShut yX2_isShut, Cond.code yX2_isShut cX2_isShut 8 (some .boolean), Cond.fieldLink RX2 37 "HopMeet$Scene" "spellCount" "I", Cond.fieldLink RX2 16 "HopMeet$Scene" "spells" "[[I"]
def wsX3_first : List Cond := .code yX3_first cX3_first 4 (some .int) :: ((wsX3_first_r1 ++ (wsX3_first_r2 ++ wsX3_first_r3)) ++ wsX30 ++ wsX20)
def wsX3_isShift : List Cond := .code yX3_isShift cX3_isShift 1 (some .boolean) :: ([])
def wsX3_slotsToMeet : List Cond := .code yX3_slotsToMeet cX3_slotsToMeet 4 (some .int) :: ([.fieldLink RX3 42 "HopMeet" "placesOfSecond" "[I", .fieldLink RX3 38 "HopMeet" "placesOfFirst" "[I", .constant RX3 191 (99999)] ++ wsX30)
def wsX3_worstOfShifts_r1 : List Cond := [Cond.fieldLink RX3 38 "HopMeet" "placesOfFirst" "[I", Cond.fieldLink RX3 10 "HopMeet" "now" "LHopMeet$Scene;", Cond.fieldLink RX3 42 "HopMeet" "placesOfSecond" "[I", Cond.constant RX3 191 (99999), Cond.methodLink RX3 168 Lib.Math.max.name, Cond.static Lib.Math.max.name, Cond.initialized "java/lang/Math", Cond.code Lib.Math.max.name Lib.Math.max.code 2 (some .int), Cond.methodLink RX3 188 yX2_placeByClock, Cond.instanceMethod yX2_placeByClock, Cond.selects RX2 yX2_placeByClock yX2_placeByClock, Cond.initialized RX2, Cond.code yX2_placeByClock cX2_placeByClock 5 (some .int), Cond.fieldLink RX2 11 "HopMeet$Scene" "users" "[[I", Cond.methodLink RX2 65 yX2_aim, Cond.instanceMethod yX2_aim, Cond.selects RX2 yX2_aim yX2_aim, Cond.code yX2_aim cX2_aim 6 (some .int), Cond.fieldLink RX2 23 "HopMeet$Scene" "channelCount" "I", Cond.fieldLink RX2 31 "HopMeet$Scene" "prime" "I", Cond.methodLink RX2 54 yX2_remainder, Cond.static yX2_remainder, Cond.code yX2_remainder cX2_remainder 2 (some .int), Cond.methodLink RX2 58 yX2_aimOfJumpAndStay]
def wsX3_worstOfShifts_r2 : List Cond := [Cond.instanceMethod yX2_aimOfJumpAndStay, Cond.selects RX2 yX2_aimOfJumpAndStay yX2_aimOfJumpAndStay, Cond.code yX2_aimOfJumpAndStay cX2_aimOfJumpAndStay 8 (some .int), Cond.methodLink RX2 62 yX2_quotient, Cond.static yX2_quotient, Cond.code yX2_quotient cX2_quotient 2 (some .int), Cond.methodLink RX2 68 yX2_holds, Cond.static yX2_holds, Cond.code yX2_holds cX2_holds 2 (some .boolean), Cond.methodLink RX2 72 yJ6_bitCount_0f7a4, Cond.static yJ6_bitCount_0f7a4, Cond.initialized RJ6, Cond.code yJ6_bitCount_0f7a4 cJ6_bitCount_0f7a4 1 (some .int), Cond.constant RJ6 265 (1431655765), Cond.constant RJ6 266 (858993459), Cond.constant RJ6 267 (252645135), Cond.methodLink RX2 77 yX2_memberWithNumber, Cond.static yX2_memberWithNumber, Cond.code yX2_memberWithNumber cX2_memberWithNumber 4 (some .int), Cond.methodLink RX3 192 yX3_slotsToMeet, Cond.instanceMethod yX3_slotsToMeet, Cond.selects RX3 yX3_slotsToMeet yX3_slotsToMeet, Cond.initialized RX3, Cond.code yX3_slotsToMeet cX3_slotsToMeet 4 (some .int)]
def wsX3_worstOfShifts : List Cond := .code yX3_worstOfShifts cX3_worstOfShifts 6 (some .int) :: ((wsX3_worstOfShifts_r1 ++ wsX3_worstOfShifts_r2) ++ wsX30 ++ wsX20)
def wsX3_worst_r1 : List Cond := [Cond.constant RX3 83 (-1000000001), Cond.constant RX3 48 (-1000000002), Cond.methodLink RX3 148 yX3_areTwoUsers, Cond.instanceMethod yX3_areTwoUsers, Cond.selects RX3 yX3_areTwoUsers yX3_areTwoUsers, Cond.initialized RX3, Cond.code yX3_areTwoUsers cX3_areTwoUsers 3 (some .boolean), Cond.methodLink RX3 79 yX3_isUser, Cond.instanceMethod yX3_isUser, Cond.selects RX3 yX3_isUser yX3_isUser, Cond.code yX3_isUser cX3_isUser 2 (some .boolean), Cond.fieldLink RX3 10 "HopMeet" "now" "LHopMeet$Scene;", Cond.fieldLink RX3 67 "HopMeet$Scene" "userCount" "I", Cond.methodLink RX3 155 yX3_isShift, Cond.static yX3_isShift, Cond.code yX3_isShift cX3_isShift 1 (some .boolean), Cond.methodLink RX3 158 yX3_worstOfShifts, Cond.instanceMethod yX3_worstOfShifts, Cond.selects RX3 yX3_worstOfShifts yX3_worstOfShifts, Cond.code yX3_worstOfShifts cX3_worstOfShifts 6 (some .int), Cond.fieldLink RX3 38 "HopMeet" "placesOfFirst" "[I", Cond.fieldLink RX3 42 "HopMeet" "placesOfSecond" "[I", Cond.constant RX3 191 (99999), Cond.methodLink RX3 168 Lib.Math.max.name]
def wsX3_worst_r2 : List Cond := [Cond.static Lib.Math.max.name, Cond.initialized "java/lang/Math", Cond.code Lib.Math.max.name Lib.Math.max.code 2 (some .int), Cond.methodLink RX3 188 yX2_placeByClock, Cond.instanceMethod yX2_placeByClock, Cond.selects RX2 yX2_placeByClock yX2_placeByClock, Cond.initialized RX2, Cond.code yX2_placeByClock cX2_placeByClock 5 (some .int), Cond.fieldLink RX2 11 "HopMeet$Scene" "users" "[[I", Cond.methodLink RX2 65 yX2_aim, Cond.instanceMethod yX2_aim, Cond.selects RX2 yX2_aim yX2_aim, Cond.code yX2_aim cX2_aim 6 (some .int), Cond.fieldLink RX2 23 "HopMeet$Scene" "channelCount" "I", Cond.fieldLink RX2 31 "HopMeet$Scene" "prime" "I", Cond.methodLink RX2 54 yX2_remainder, Cond.static yX2_remainder, Cond.code yX2_remainder cX2_remainder 2 (some .int), Cond.methodLink RX2 58 yX2_aimOfJumpAndStay, Cond.instanceMethod yX2_aimOfJumpAndStay, Cond.selects RX2 yX2_aimOfJumpAndStay yX2_aimOfJumpAndStay, Cond.code yX2_aimOfJumpAndStay cX2_aimOfJumpAndStay 8 (some .int), Cond.methodLink RX2 62 yX2_quotient, Cond.static yX2_quotient]
def wsX3_worst_r3 : List Cond := [Cond.code yX2_quotient cX2_quotient 2 (some .int), Cond.methodLink RX2 68 yX2_holds, Cond.static yX2_holds, Cond.code yX2_holds cX2_holds 2 (some .boolean), Cond.methodLink RX2 72 yJ6_bitCount_0f7a4, Cond.static yJ6_bitCount_0f7a4, Cond.initialized RJ6, Cond.code yJ6_bitCount_0f7a4 cJ6_bitCount_0f7a4 1 (some .int), Cond.constant RJ6 265 (1431655765), Cond.constant RJ6 266 (858993459), Cond.constant RJ6 267 (252645135), Cond.methodLink RX2 77 yX2_memberWithNumber, Cond.static yX2_memberWithNumber, Cond.code yX2_memberWithNumber cX2_memberWithNumber 4 (some .int), Cond.methodLink RX3 192 yX3_slotsToMeet, Cond.instanceMethod yX3_slotsToMeet, Cond.selects RX3 yX3_slotsToMeet yX3_slotsToMeet, Cond.code yX3_slotsToMeet cX3_slotsToMeet 4 (some .int)]
def wsX3_worst : List Cond := .code yX3_worst cX3_worst 4 (some .int) :: ((wsX3_worst_r1 ++ (wsX3_worst_r2 ++ wsX3_worst_r3)) ++ wsX30 ++ wsX20)
def wsX3_bound_r1 : List Cond := [Cond.constant RX3 83 (-1000000001), Cond.constant RX3 48 (-1000000002), Cond.methodLink RX3 148 yX3_areTwoUsers, Cond.instanceMethod yX3_areTwoUsers, Cond.selects RX3 yX3_areTwoUsers yX3_areTwoUsers, Cond.initialized RX3, Cond.code yX3_areTwoUsers cX3_areTwoUsers 3 (some .boolean), Cond.methodLink RX3 79 yX3_isUser, Cond.instanceMethod yX3_isUser, Cond.selects RX3 yX3_isUser yX3_isUser, Cond.code yX3_isUser cX3_isUser 2 (some .boolean), Cond.fieldLink RX3 10 "HopMeet" "now" "LHopMeet$Scene;", Cond.fieldLink RX3 67 "HopMeet$Scene" "userCount" "I", Cond.methodLink RX3 155 yX3_isShift, Cond.static yX3_isShift, Cond.code yX3_isShift cX3_isShift 1 (some .boolean), Cond.methodLink RX3 158 yX3_worstOfShifts, Cond.instanceMethod yX3_worstOfShifts, Cond.selects RX3 yX3_worstOfShifts yX3_worstOfShifts, Cond.code yX3_worstOfShifts cX3_worstOfShifts 6 (some .int), Cond.fieldLink RX3 38 "HopMeet" "placesOfFirst" "[I", Cond.fieldLink RX3 42 "HopMeet" "placesOfSecond" "[I", Cond.constant RX3 191 (99999), Cond.methodLink RX3 168 Lib.Math.max.name]
def wsX3_bound_r2 : List Cond := [Cond.static Lib.Math.max.name, Cond.initialized "java/lang/Math", Cond.code Lib.Math.max.name Lib.Math.max.code 2 (some .int), Cond.methodLink RX3 188 yX2_placeByClock, Cond.instanceMethod yX2_placeByClock, Cond.selects RX2 yX2_placeByClock yX2_placeByClock, Cond.initialized RX2, Cond.code yX2_placeByClock cX2_placeByClock 5 (some .int), Cond.fieldLink RX2 11 "HopMeet$Scene" "users" "[[I", Cond.methodLink RX2 65 yX2_aim, Cond.instanceMethod yX2_aim, Cond.selects RX2 yX2_aim yX2_aim, Cond.code yX2_aim cX2_aim 6 (some .int), Cond.fieldLink RX2 23 "HopMeet$Scene" "channelCount" "I", Cond.fieldLink RX2 31 "HopMeet$Scene" "prime" "I", Cond.methodLink RX2 54 yX2_remainder, Cond.static yX2_remainder, Cond.code yX2_remainder cX2_remainder 2 (some .int), Cond.methodLink RX2 58 yX2_aimOfJumpAndStay, Cond.instanceMethod yX2_aimOfJumpAndStay, Cond.selects RX2 yX2_aimOfJumpAndStay yX2_aimOfJumpAndStay, Cond.code yX2_aimOfJumpAndStay cX2_aimOfJumpAndStay 8 (some .int), Cond.methodLink RX2 62 yX2_quotient, Cond.static yX2_quotient]
def wsX3_bound_r3 : List Cond := [Cond.code yX2_quotient cX2_quotient 2 (some .int), Cond.methodLink RX2 68 yX2_holds, Cond.static yX2_holds, Cond.code yX2_holds cX2_holds 2 (some .boolean), Cond.methodLink RX2 72 yJ6_bitCount_0f7a4, Cond.static yJ6_bitCount_0f7a4, Cond.initialized RJ6, Cond.code yJ6_bitCount_0f7a4 cJ6_bitCount_0f7a4 1 (some .int), Cond.constant RJ6 265 (1431655765), Cond.constant RJ6 266 (858993459), Cond.constant RJ6 267 (252645135), Cond.methodLink RX2 77 yX2_memberWithNumber, Cond.static yX2_memberWithNumber, Cond.code yX2_memberWithNumber cX2_memberWithNumber 4 (some .int), Cond.methodLink RX3 192 yX3_slotsToMeet, Cond.instanceMethod yX3_slotsToMeet, Cond.selects RX3 yX3_slotsToMeet yX3_slotsToMeet, Cond.code yX3_slotsToMeet cX3_slotsToMeet 4 (some .int)]
def wsX3_bound : List Cond := .code yX3_bound cX3_bound 5 (some .int) :: ((wsX3_bound_r1 ++ (wsX3_bound_r2 ++ wsX3_bound_r3)) ++ wsX30 ++ wsX20)
def wsX3_together_r1 : List Cond := [Cond.constant RX3 83 (-1000000001), Cond.constant RX3 48 (-1000000002), Cond.fieldLink RX3 10 "HopMeet" "now" "LHopMeet$Scene;", Cond.methodLink RX3 148 yX3_areTwoUsers, Cond.instanceMethod yX3_areTwoUsers, Cond.selects RX3 yX3_areTwoUsers yX3_areTwoUsers, Cond.initialized RX3, Cond.code yX3_areTwoUsers cX3_areTwoUsers 3 (some .boolean), Cond.methodLink RX3 79 yX3_isUser, Cond.instanceMethod yX3_isUser, Cond.selects RX3 yX3_isUser yX3_isUser, Cond.code yX3_isUser cX3_isUser 2 (some .boolean), Cond.fieldLink RX3 67 "HopMeet$Scene" "userCount" "I", Cond.methodLink RX3 151 yX2_meet, Cond.instanceMethod yX2_meet, Cond.selects RX2 yX2_meet yX2_meet, Cond.initialized RX2, Cond.code yX2_meet cX2_meet 5 (some .boolean), Cond.methodLink RX2 90 yX2_place, Cond.instanceMethod yX2_place, Cond.selects RX2 yX2_place yX2_place, Cond.code yX2_place cX2_place 5 (some .int), Cond.methodLink RX2 80 yX2_clockOf, Cond.instanceMethod yX2_clockOf]
def wsX3_together_r2 : List Cond := [Cond.selects RX2 yX2_clockOf yX2_clockOf, Cond.code yX2_clockOf cX2_clockOf 3 (some .int), Cond.fieldLink RX2 11 "HopMeet$Scene" "users" "[[I", Cond.methodLink RX2 83 yX2_placeByClock, Cond.instanceMethod yX2_placeByClock, Cond.selects RX2 yX2_placeByClock yX2_placeByClock, Cond.code yX2_placeByClock cX2_placeByClock 5 (some .int), Cond.methodLink RX2 65 yX2_aim, Cond.instanceMethod yX2_aim, Cond.selects RX2 yX2_aim yX2_aim, Cond.code yX2_aim cX2_aim 6 (some .int), Cond.fieldLink RX2 23 "HopMeet$Scene" "channelCount" "I", Cond.fieldLink RX2 31 "HopMeet$Scene" "prime" "I", Cond.methodLink RX2 54 yX2_remainder, Cond.static yX2_remainder, Cond.code yX2_remainder cX2_remainder 2 (some .int), Cond.methodLink RX2 58 yX2_aimOfJumpAndStay, Cond.instanceMethod yX2_aimOfJumpAndStay, Cond.selects RX2 yX2_aimOfJumpAndStay yX2_aimOfJumpAndStay, Cond.code yX2_aimOfJumpAndStay cX2_aimOfJumpAndStay 8 (some .int), Cond.methodLink RX2 62 yX2_quotient, Cond.static yX2_quotient, Cond.code yX2_quotient cX2_quotient 2 (some .int), Cond.methodLink RX2 68 yX2_holds]
def wsX3_together_r3 : List Cond := [Cond.static yX2_holds, Cond.code yX2_holds cX2_holds 2 (some .boolean), Cond.methodLink RX2 72 yJ6_bitCount_0f7a4, Cond.static yJ6_bitCount_0f7a4, Cond.initialized RJ6, Cond.code yJ6_bitCount_0f7a4 cJ6_bitCount_0f7a4 1 (some .int), Cond.constant RJ6 265 (1431655765), Cond.constant RJ6 266 (858993459), Cond.constant RJ6 267 (252645135), Cond.methodLink RX2 77 yX2_memberWithNumber, Cond.static yX2_memberWithNumber, Cond.code yX2_memberWithNumber cX2_memberWithNumber 4 (some .int), Cond.methodLink RX2 86 yX2_isShut, Cond.instanceMethod yX2_isShut, Cond.selects RX2 yX2_isShut yX2_isShut, Cond.code yX2_isShut cX2_isShut 8 (some .boolean), Cond.fieldLink RX2 37 "HopMeet$Scene" "spellCount" "I", Cond.fieldLink RX2 16 "HopMeet$Scene" "spells" "[[I"]
def wsX3_together : List Cond := .code yX3_together cX3_together 6 (some .int) :: ((wsX3_together_r1 ++ (wsX3_together_r2 ++ wsX3_together_r3)) ++ wsX30 ++ wsX20)
def wsX3_countTimesOn_r1 : List Cond := [Cond.fieldLink RX3 45 "HopMeet" "timesOn" "[I", Cond.fieldLink RX3 10 "HopMeet" "now" "LHopMeet$Scene;", Cond.methodLink RX3 188 yX2_placeByClock, Cond.instanceMethod yX2_placeByClock, Cond.selects RX2 yX2_placeByClock yX2_placeByClock, Cond.initialized RX2, Cond.code yX2_placeByClock cX2_placeByClock 5 (some .int), Cond.fieldLink RX2 11 "HopMeet$Scene" "users" "[[I", Cond.methodLink RX2 65 yX2_aim, Cond.instanceMethod yX2_aim, Cond.selects RX2 yX2_aim yX2_aim, Cond.code yX2_aim cX2_aim 6 (some .int), Cond.fieldLink RX2 23 "HopMeet$Scene" "channelCount" "I", Cond.fieldLink RX2 31 "HopMeet$Scene" "prime" "I", Cond.methodLink RX2 54 yX2_remainder, Cond.static yX2_remainder, Cond.code yX2_remainder cX2_remainder 2 (some .int), Cond.methodLink RX2 58 yX2_aimOfJumpAndStay, Cond.instanceMethod yX2_aimOfJumpAndStay, Cond.selects RX2 yX2_aimOfJumpAndStay yX2_aimOfJumpAndStay, Cond.code yX2_aimOfJumpAndStay cX2_aimOfJumpAndStay 8 (some .int), Cond.methodLink RX2 62 yX2_quotient, Cond.static yX2_quotient, Cond.code yX2_quotient cX2_quotient 2 (some .int)]
def wsX3_countTimesOn_r2 : List Cond := [Cond.methodLink RX2 68 yX2_holds, Cond.static yX2_holds, Cond.code yX2_holds cX2_holds 2 (some .boolean), Cond.methodLink RX2 72 yJ6_bitCount_0f7a4, Cond.static yJ6_bitCount_0f7a4, Cond.initialized RJ6, Cond.code yJ6_bitCount_0f7a4 cJ6_bitCount_0f7a4 1 (some .int), Cond.constant RJ6 265 (1431655765), Cond.constant RJ6 266 (858993459), Cond.constant RJ6 267 (252645135), Cond.methodLink RX2 77 yX2_memberWithNumber, Cond.static yX2_memberWithNumber, Cond.code yX2_memberWithNumber cX2_memberWithNumber 4 (some .int)]
def wsX3_countTimesOn : List Cond := .code yX3_countTimesOn cX3_countTimesOn 5 none :: ((wsX3_countTimesOn_r1 ++ wsX3_countTimesOn_r2) ++ wsX30 ++ wsX20)
def wsX3_even_r1 : List Cond := [Cond.constant RX3 83 (-1000000001), Cond.constant RX3 48 (-1000000002), Cond.fieldLink RX3 10 "HopMeet" "now" "LHopMeet$Scene;", Cond.fieldLink RX3 128 "HopMeet$Scene" "users" "[[I", Cond.fieldLink RX3 92 "HopMeet$Scene" "channelCount" "I", Cond.fieldLink RX3 45 "HopMeet" "timesOn" "[I", Cond.methodLink RX3 168 Lib.Math.max.name, Cond.static Lib.Math.max.name, Cond.initialized "java/lang/Math", Cond.code Lib.Math.max.name Lib.Math.max.code 2 (some .int), Cond.methodLink RX3 173 Lib.Math.min.name, Cond.static Lib.Math.min.name, Cond.code Lib.Math.min.name Lib.Math.min.code 2 (some .int), Cond.methodLink RX3 79 yX3_isUser, Cond.instanceMethod yX3_isUser, Cond.selects RX3 yX3_isUser yX3_isUser, Cond.initialized RX3, Cond.code yX3_isUser cX3_isUser 2 (some .boolean), Cond.fieldLink RX3 67 "HopMeet$Scene" "userCount" "I", Cond.methodLink RX3 161 yX3_countTimesOn, Cond.instanceMethod yX3_countTimesOn, Cond.selects RX3 yX3_countTimesOn yX3_countTimesOn, Cond.code yX3_countTimesOn cX3_countTimesOn 5 none, Cond.methodLink RX3 188 yX2_placeByClock]
def wsX3_even_r2 : List Cond := [Cond.instanceMethod yX2_placeByClock, Cond.selects RX2 yX2_placeByClock yX2_placeByClock, Cond.initialized RX2, Cond.code yX2_placeByClock cX2_placeByClock 5 (some .int), Cond.fieldLink RX2 11 "HopMeet$Scene" "users" "[[I", Cond.methodLink RX2 65 yX2_aim, Cond.instanceMethod yX2_aim, Cond.selects RX2 yX2_aim yX2_aim, Cond.code yX2_aim cX2_aim 6 (some .int), Cond.fieldLink RX2 23 "HopMeet$Scene" "channelCount" "I", Cond.fieldLink RX2 31 "HopMeet$Scene" "prime" "I", Cond.methodLink RX2 54 yX2_remainder, Cond.static yX2_remainder, Cond.code yX2_remainder cX2_remainder 2 (some .int), Cond.methodLink RX2 58 yX2_aimOfJumpAndStay, Cond.instanceMethod yX2_aimOfJumpAndStay, Cond.selects RX2 yX2_aimOfJumpAndStay yX2_aimOfJumpAndStay, Cond.code yX2_aimOfJumpAndStay cX2_aimOfJumpAndStay 8 (some .int), Cond.methodLink RX2 62 yX2_quotient, Cond.static yX2_quotient, Cond.code yX2_quotient cX2_quotient 2 (some .int), Cond.methodLink RX2 68 yX2_holds, Cond.static yX2_holds, Cond.code yX2_holds cX2_holds 2 (some .boolean)]
def wsX3_even_r3 : List Cond := [Cond.methodLink RX2 72 yJ6_bitCount_0f7a4, Cond.static yJ6_bitCount_0f7a4, Cond.initialized RJ6, Cond.code yJ6_bitCount_0f7a4 cJ6_bitCount_0f7a4 1 (some .int), Cond.constant RJ6 265 (1431655765), Cond.constant RJ6 266 (858993459), Cond.constant RJ6 267 (252645135), Cond.methodLink RX2 77 yX2_memberWithNumber, Cond.static yX2_memberWithNumber, Cond.code yX2_memberWithNumber cX2_memberWithNumber 4 (some .int), Cond.methodLink RX3 165 yX2_holds]
def wsX3_even : List Cond := .code yX3_even cX3_even 7 (some .int) :: ((wsX3_even_r1 ++ (wsX3_even_r2 ++ wsX3_even_r3)) ++ wsX30 ++ wsX20)
def wsX3_run_r1 : List Cond := [Cond.constant RX3 48 (-1000000002), Cond.fieldLink RX3 10 "HopMeet" "now" "LHopMeet$Scene;", Cond.fieldLink RX3 67 "HopMeet$Scene" "userCount" "I", Cond.constant RX3 102 (-1000000003), Cond.fieldLink RX3 34 "HopMeet" "groups" "LHopMeet$Groups;", Cond.fieldLink RX3 115 "HopMeet$Groups" "slotsRun" "I", Cond.constant RX3 70 (-1000000004), Cond.methodLink RX3 176 yX0_runSlot, Cond.instanceMethod yX0_runSlot, Cond.selects RX0 yX0_runSlot yX0_runSlot, Cond.initialized RX0, Cond.code yX0_runSlot cX0_runSlot 3 none, Cond.fieldLink RX0 15 "HopMeet$Groups" "leaderOn" "[I", Cond.fieldLink RX0 22 "HopMeet$Groups" "userCount" "I", Cond.fieldLink RX0 9 "HopMeet$Groups" "least" "[I", Cond.fieldLink RX0 18 "HopMeet$Groups" "slotsRun" "I", Cond.methodLink RX0 25 yX2_place, Cond.instanceMethod yX2_place, Cond.selects RX2 yX2_place yX2_place, Cond.initialized RX2, Cond.code yX2_place cX2_place 5 (some .int), Cond.methodLink RX2 80 yX2_clockOf, Cond.instanceMethod yX2_clockOf, Cond.selects RX2 yX2_clockOf yX2_clockOf]
def wsX3_run_r2 : List Cond := [Cond.code yX2_clockOf cX2_clockOf 3 (some .int), Cond.fieldLink RX2 11 "HopMeet$Scene" "users" "[[I", Cond.methodLink RX2 83 yX2_placeByClock, Cond.instanceMethod yX2_placeByClock, Cond.selects RX2 yX2_placeByClock yX2_placeByClock, Cond.code yX2_placeByClock cX2_placeByClock 5 (some .int), Cond.methodLink RX2 65 yX2_aim, Cond.instanceMethod yX2_aim, Cond.selects RX2 yX2_aim yX2_aim, Cond.code yX2_aim cX2_aim 6 (some .int), Cond.fieldLink RX2 23 "HopMeet$Scene" "channelCount" "I", Cond.fieldLink RX2 31 "HopMeet$Scene" "prime" "I", Cond.methodLink RX2 54 yX2_remainder, Cond.static yX2_remainder, Cond.code yX2_remainder cX2_remainder 2 (some .int), Cond.methodLink RX2 58 yX2_aimOfJumpAndStay, Cond.instanceMethod yX2_aimOfJumpAndStay, Cond.selects RX2 yX2_aimOfJumpAndStay yX2_aimOfJumpAndStay, Cond.code yX2_aimOfJumpAndStay cX2_aimOfJumpAndStay 8 (some .int), Cond.methodLink RX2 62 yX2_quotient, Cond.static yX2_quotient, Cond.code yX2_quotient cX2_quotient 2 (some .int), Cond.methodLink RX2 68 yX2_holds, Cond.static yX2_holds]
def wsX3_run_r3 : List Cond := [Cond.code yX2_holds cX2_holds 2 (some .boolean), Cond.methodLink RX2 72 yJ6_bitCount_0f7a4, Cond.static yJ6_bitCount_0f7a4, Cond.initialized RJ6, Cond.code yJ6_bitCount_0f7a4 cJ6_bitCount_0f7a4 1 (some .int), Cond.constant RJ6 265 (1431655765), Cond.constant RJ6 266 (858993459), Cond.constant RJ6 267 (252645135), Cond.methodLink RX2 77 yX2_memberWithNumber, Cond.static yX2_memberWithNumber, Cond.code yX2_memberWithNumber cX2_memberWithNumber 4 (some .int), Cond.methodLink RX2 86 yX2_isShut, Cond.instanceMethod yX2_isShut, Cond.selects RX2 yX2_isShut yX2_isShut, Cond.code yX2_isShut cX2_isShut 8 (some .boolean), Cond.fieldLink RX2 37 "HopMeet$Scene" "spellCount" "I", Cond.fieldLink RX2 16 "HopMeet$Scene" "spells" "[[I", Cond.methodLink RX0 31 yX0_settle, Cond.instanceMethod yX0_settle, Cond.selects RX0 yX0_settle yX0_settle, Cond.code yX0_settle cX0_settle 3 none, Cond.methodLink RX0 35 yX0_join, Cond.instanceMethod yX0_join, Cond.selects RX0 yX0_join yX0_join]
def wsX3_run_r4 : List Cond := [Cond.code yX0_join cX0_join 4 none, Cond.methodLink RX3 118 yX0_howMany, Cond.instanceMethod yX0_howMany, Cond.selects RX0 yX0_howMany yX0_howMany, Cond.code yX0_howMany cX0_howMany 3 (some .int)]
def wsX3_run : List Cond := .code yX3_run cX3_run 3 (some .int) :: ((wsX3_run_r1 ++ (wsX3_run_r2 ++ (wsX3_run_r3 ++ wsX3_run_r4))) ++ wsX30 ++ wsX20 ++ wsX00)
def wsX3_merge_r1 : List Cond := [Cond.fieldLink RX3 10 "HopMeet" "now" "LHopMeet$Scene;", Cond.fieldLink RX3 67 "HopMeet$Scene" "userCount" "I", Cond.constant RX3 102 (-1000000003), Cond.fieldLink RX3 34 "HopMeet" "groups" "LHopMeet$Groups;", Cond.fieldLink RX3 115 "HopMeet$Groups" "slotsRun" "I", Cond.methodLink RX3 118 yX0_howMany, Cond.instanceMethod yX0_howMany, Cond.selects RX0 yX0_howMany yX0_howMany, Cond.initialized RX0, Cond.code yX0_howMany cX0_howMany 3 (some .int), Cond.fieldLink RX0 22 "HopMeet$Groups" "userCount" "I", Cond.fieldLink RX0 9 "HopMeet$Groups" "least" "[I", Cond.methodLink RX3 176 yX0_runSlot, Cond.instanceMethod yX0_runSlot, Cond.selects RX0 yX0_runSlot yX0_runSlot, Cond.code yX0_runSlot cX0_runSlot 3 none, Cond.fieldLink RX0 15 "HopMeet$Groups" "leaderOn" "[I", Cond.fieldLink RX0 18 "HopMeet$Groups" "slotsRun" "I", Cond.methodLink RX0 25 yX2_place, Cond.instanceMethod yX2_place, Cond.selects RX2 yX2_place yX2_place, Cond.initialized RX2, Cond.code yX2_place cX2_place 5 (some .int), Cond.methodLink RX2 80 yX2_clockOf]
def wsX3_merge_r2 : List Cond := [Cond.instanceMethod yX2_clockOf, Cond.selects RX2 yX2_clockOf yX2_clockOf, Cond.code yX2_clockOf cX2_clockOf 3 (some .int), Cond.fieldLink RX2 11 "HopMeet$Scene" "users" "[[I", Cond.methodLink RX2 83 yX2_placeByClock, Cond.instanceMethod yX2_placeByClock, Cond.selects RX2 yX2_placeByClock yX2_placeByClock, Cond.code yX2_placeByClock cX2_placeByClock 5 (some .int), Cond.methodLink RX2 65 yX2_aim, Cond.instanceMethod yX2_aim, Cond.selects RX2 yX2_aim yX2_aim, Cond.code yX2_aim cX2_aim 6 (some .int), Cond.fieldLink RX2 23 "HopMeet$Scene" "channelCount" "I", Cond.fieldLink RX2 31 "HopMeet$Scene" "prime" "I", Cond.methodLink RX2 54 yX2_remainder, Cond.static yX2_remainder, Cond.code yX2_remainder cX2_remainder 2 (some .int), Cond.methodLink RX2 58 yX2_aimOfJumpAndStay, Cond.instanceMethod yX2_aimOfJumpAndStay, Cond.selects RX2 yX2_aimOfJumpAndStay yX2_aimOfJumpAndStay, Cond.code yX2_aimOfJumpAndStay cX2_aimOfJumpAndStay 8 (some .int), Cond.methodLink RX2 62 yX2_quotient, Cond.static yX2_quotient, Cond.code yX2_quotient cX2_quotient 2 (some .int)]
def wsX3_merge_r3 : List Cond := [Cond.methodLink RX2 68 yX2_holds, Cond.static yX2_holds, Cond.code yX2_holds cX2_holds 2 (some .boolean), Cond.methodLink RX2 72 yJ6_bitCount_0f7a4, Cond.static yJ6_bitCount_0f7a4, Cond.initialized RJ6, Cond.code yJ6_bitCount_0f7a4 cJ6_bitCount_0f7a4 1 (some .int), Cond.constant RJ6 265 (1431655765), Cond.constant RJ6 266 (858993459), Cond.constant RJ6 267 (252645135), Cond.methodLink RX2 77 yX2_memberWithNumber, Cond.static yX2_memberWithNumber, Cond.code yX2_memberWithNumber cX2_memberWithNumber 4 (some .int), Cond.methodLink RX2 86 yX2_isShut, Cond.instanceMethod yX2_isShut, Cond.selects RX2 yX2_isShut yX2_isShut, Cond.code yX2_isShut cX2_isShut 8 (some .boolean), Cond.fieldLink RX2 37 "HopMeet$Scene" "spellCount" "I", Cond.fieldLink RX2 16 "HopMeet$Scene" "spells" "[[I", Cond.methodLink RX0 31 yX0_settle, Cond.instanceMethod yX0_settle, Cond.selects RX0 yX0_settle yX0_settle, Cond.code yX0_settle cX0_settle 3 none, Cond.methodLink RX0 35 yX0_join]
def wsX3_merge_r4 : List Cond := [Cond.instanceMethod yX0_join, Cond.selects RX0 yX0_join yX0_join, Cond.code yX0_join cX0_join 4 none]
def wsX3_merge : List Cond := .code yX3_merge cX3_merge 2 (some .int) :: ((wsX3_merge_r1 ++ (wsX3_merge_r2 ++ (wsX3_merge_r3 ++ wsX3_merge_r4))) ++ wsX30 ++ wsX20 ++ wsX00)
def wsX3_part : List Cond := .code yX3_part cX3_part 2 (some .int) :: ([.fieldLink RX3 34 "HopMeet" "groups" "LHopMeet$Groups;", .fieldLink RX3 115 "HopMeet$Groups" "slotsRun" "I", .fieldLink RX3 10 "HopMeet" "now" "LHopMeet$Scene;", .fieldLink RX3 67 "HopMeet$Scene" "userCount" "I", .methodLink RX3 56 yX0_begin, .instanceMethod yX0_begin, .selects RX0 yX0_begin yX0_begin, .initialized RX0, .code yX0_begin cX0_begin 3 none, .fieldLink RX0 18 "HopMeet$Groups" "slotsRun" "I", .fieldLink RX0 22 "HopMeet$Groups" "userCount" "I", .fieldLink RX0 9 "HopMeet$Groups" "least" "[I"] ++ wsX30 ++ wsX00 ++ wsX20)
def wsX3_isImage : List Cond := .code yX3_isImage cX3_isImage 1 (some .boolean) :: ([])
def wsX3_keep : List Cond := .code yX3_keep cX3_keep 2 (some .int) :: ([.constant RX3 83 (-1000000001), .fieldLink RX3 23 "HopMeet" "images" "[LHopMeet$Scene;", .fieldLink RX3 10 "HopMeet" "now" "LHopMeet$Scene;", .fieldLink RX3 27 "HopMeet" "wasKept" "[Z", .fieldLink RX3 67 "HopMeet$Scene" "userCount" "I", .methodLink RX3 179 yX3_isImage, .static yX3_isImage, .initialized RX3, .code yX3_isImage cX3_isImage 1 (some .boolean), .methodLink RX3 182 yX2_become, .instanceMethod yX2_become, .selects RX2 yX2_become yX2_become, .initialized RX2, .code yX2_become cX2_become 3 none, .fieldLink RX2 23 "HopMeet$Scene" "channelCount" "I", .fieldLink RX2 31 "HopMeet$Scene" "prime" "I", .fieldLink RX2 34 "HopMeet$Scene" "userCount" "I", .fieldLink RX2 37 "HopMeet$Scene" "spellCount" "I", .fieldLink RX2 11 "HopMeet$Scene" "users" "[[I", .methodLink RX2 40 arraycopyName, .native arraycopyName, .static arraycopyName, .initialized "java/lang/System", .fieldLink RX2 16 "HopMeet$Scene" "spells" "[[I"] ++ wsX30 ++ wsX20)
def wsX3_goBack_r1 : List Cond := [Cond.constant RX3 83 (-1000000001), Cond.fieldLink RX3 27 "HopMeet" "wasKept" "[Z", Cond.constant RX3 102 (-1000000003), Cond.fieldLink RX3 10 "HopMeet" "now" "LHopMeet$Scene;", Cond.fieldLink RX3 23 "HopMeet" "images" "[LHopMeet$Scene;", Cond.fieldLink RX3 19 "HopMeet" "past" "LHopMeet$Past;", Cond.fieldLink RX3 34 "HopMeet" "groups" "LHopMeet$Groups;", Cond.fieldLink RX3 67 "HopMeet$Scene" "userCount" "I", Cond.methodLink RX3 179 yX3_isImage, Cond.static yX3_isImage, Cond.initialized RX3, Cond.code yX3_isImage cX3_isImage 1 (some .boolean), Cond.methodLink RX3 182 yX2_become, Cond.instanceMethod yX2_become, Cond.selects RX2 yX2_become yX2_become, Cond.initialized RX2, Cond.code yX2_become cX2_become 3 none, Cond.fieldLink RX2 23 "HopMeet$Scene" "channelCount" "I", Cond.fieldLink RX2 31 "HopMeet$Scene" "prime" "I", Cond.fieldLink RX2 34 "HopMeet$Scene" "userCount" "I", Cond.fieldLink RX2 37 "HopMeet$Scene" "spellCount" "I", Cond.fieldLink RX2 11 "HopMeet$Scene" "users" "[[I", Cond.methodLink RX2 40 arraycopyName, Cond.native arraycopyName]
def wsX3_goBack_r2 : List Cond := [Cond.static arraycopyName, Cond.initialized "java/lang/System", Cond.fieldLink RX2 16 "HopMeet$Scene" "spells" "[[I", Cond.methodLink RX3 53 yX1_forget, Cond.instanceMethod yX1_forget, Cond.selects RX1 yX1_forget yX1_forget, Cond.initialized RX1, Cond.code yX1_forget cX1_forget 1 none, Cond.fieldLink RX1 18 "HopMeet$Past" "next" "I", Cond.fieldLink RX1 22 "HopMeet$Past" "count" "I", Cond.methodLink RX3 56 yX0_begin, Cond.instanceMethod yX0_begin, Cond.selects RX0 yX0_begin yX0_begin, Cond.initialized RX0, Cond.code yX0_begin cX0_begin 3 none, Cond.fieldLink RX0 18 "HopMeet$Groups" "slotsRun" "I", Cond.fieldLink RX0 22 "HopMeet$Groups" "userCount" "I", Cond.fieldLink RX0 9 "HopMeet$Groups" "least" "[I"]
def wsX3_goBack : List Cond := .code yX3_goBack cX3_goBack 2 (some .int) :: ((wsX3_goBack_r1 ++ wsX3_goBack_r2) ++ wsX30 ++ wsX20 ++ wsX10 ++ wsX00)
def wsX4_isPrime : List Cond := .code yX4_isPrime cX4_isPrime 3 (some .boolean) :: ([])
def wsX4_layPrime : List Cond := .code yX4_layPrime cX4_layPrime 1 none :: ([.fieldLink RX4 7 "HopMeetModel" "now" "[I", .fieldLink RX4 35 "HopMeetModel" "prime" "I", .methodLink RX4 39 yX4_isPrime, .static yX4_isPrime, .initialized RX4, .code yX4_isPrime cX4_isPrime 3 (some .boolean)] ++ wsX40)
def wsX4_anew : List Cond := .code yX4_anew cX4_anew 2 none :: ([.fieldLink RX4 73 "HopMeetModel" "slots" "I", .fieldLink RX4 23 "HopMeetModel" "group" "[I"] ++ wsX40)
def wsX4_init_r1 : List Cond := [Cond.methodLink RX4 1 objectInit, Cond.instanceMethod objectInit, Cond.code objectInit ⟨#[0xb1]⟩ 1 none, Cond.arrayClass .int, Cond.fieldLink RX4 7 "HopMeetModel" "now" "[I", Cond.fieldLink RX4 13 "HopMeetModel" "back" "[I", Cond.fieldLink RX4 16 "HopMeetModel" "image" "[I", Cond.arrayClass .boolean, Cond.fieldLink RX4 19 "HopMeetModel" "isKept" "[Z", Cond.fieldLink RX4 23 "HopMeetModel" "group" "[I", Cond.fieldLink RX4 26 "HopMeetModel" "many" "[I", Cond.methodLink RX4 29 yX4_layPrime, Cond.instanceMethod yX4_layPrime, Cond.selects RX4 yX4_layPrime yX4_layPrime, Cond.initialized RX4, Cond.code yX4_layPrime cX4_layPrime 1 none, Cond.fieldLink RX4 35 "HopMeetModel" "prime" "I", Cond.methodLink RX4 39 yX4_isPrime, Cond.static yX4_isPrime, Cond.code yX4_isPrime cX4_isPrime 3 (some .boolean), Cond.methodLink RX4 32 yX4_anew, Cond.instanceMethod yX4_anew, Cond.selects RX4 yX4_anew yX4_anew, Cond.code yX4_anew cX4_anew 2 none]
def wsX4_init_r2 : List Cond := [Cond.fieldLink RX4 73 "HopMeetModel" "slots" "I"]
def wsX4_init : List Cond := .code yX4_init cX4_init 1 none :: ((wsX4_init_r1 ++ wsX4_init_r2) ++ wsX40)
def wsX4_in : List Cond := .code yX4_in cX4_in 3 (some .boolean) :: ([])
def wsX4_bring : List Cond := .code yX4_bring cX4_bring 6 none :: ([])
def wsX4_all : List Cond := .code yX4_all cX4_all 1 (some .int) :: ([.fieldLink RX4 7 "HopMeetModel" "now" "[I"] ++ wsX40)
def wsX4_isUser : List Cond := .code yX4_isUser cX4_isUser 2 (some .boolean) :: ([.fieldLink RX4 7 "HopMeetModel" "now" "[I", .methodLink RX4 43 yX4_in, .static yX4_in, .initialized RX4, .code yX4_in cX4_in 3 (some .boolean)] ++ wsX40)
def wsX4_areTwo : List Cond := .code yX4_areTwo cX4_areTwo 3 (some .boolean) :: ([.methodLink RX4 47 yX4_isUser, .instanceMethod yX4_isUser, .selects RX4 yX4_isUser yX4_isUser, .initialized RX4, .code yX4_isUser cX4_isUser 2 (some .boolean), .fieldLink RX4 7 "HopMeetModel" "now" "[I", .methodLink RX4 43 yX4_in, .static yX4_in, .code yX4_in cX4_in 3 (some .boolean)] ++ wsX40)
def wsX4_of : List Cond := .code yX4_of cX4_of 3 (some .int) :: ([.fieldLink RX4 7 "HopMeetModel" "now" "[I"] ++ wsX40)
def wsX4_points : List Cond := .code yX4_points cX4_points 10 (some .int) :: ([.fieldLink RX4 7 "HopMeetModel" "now" "[I", .fieldLink RX4 35 "HopMeetModel" "prime" "I", .methodLink RX4 50 yX4_of, .instanceMethod yX4_of, .selects RX4 yX4_of yX4_of, .initialized RX4, .code yX4_of cX4_of 3 (some .int)] ++ wsX40)
def wsX4_ones : List Cond := .code yX4_ones cX4_ones 3 (some .int) :: ([])
def wsX4_lands : List Cond := .code yX4_lands cX4_lands 7 (some .int) :: ([.methodLink RX4 50 yX4_of, .instanceMethod yX4_of, .selects RX4 yX4_of yX4_of, .initialized RX4, .code yX4_of cX4_of 3 (some .int), .fieldLink RX4 7 "HopMeetModel" "now" "[I", .methodLink RX4 54 yX4_points, .instanceMethod yX4_points, .selects RX4 yX4_points yX4_points, .code yX4_points cX4_points 10 (some .int), .fieldLink RX4 35 "HopMeetModel" "prime" "I", .methodLink RX4 57 yX4_ones, .static yX4_ones, .code yX4_ones cX4_ones 3 (some .int)] ++ wsX40)
def wsX4_isShut : List Cond := .code yX4_isShut cX4_isShut 8 (some .boolean) :: ([.fieldLink RX4 7 "HopMeetModel" "now" "[I", .methodLink RX4 43 yX4_in, .static yX4_in, .initialized RX4, .code yX4_in cX4_in 3 (some .boolean)] ++ wsX40)
def wsX4_whyNot_r1 : List Cond := [Cond.methodLink RX4 50 yX4_of, Cond.instanceMethod yX4_of, Cond.selects RX4 yX4_of yX4_of, Cond.initialized RX4, Cond.code yX4_of cX4_of 3 (some .int), Cond.fieldLink RX4 7 "HopMeetModel" "now" "[I", Cond.methodLink RX4 61 yX4_lands, Cond.instanceMethod yX4_lands, Cond.selects RX4 yX4_lands yX4_lands, Cond.code yX4_lands cX4_lands 7 (some .int), Cond.methodLink RX4 54 yX4_points, Cond.instanceMethod yX4_points, Cond.selects RX4 yX4_points yX4_points, Cond.code yX4_points cX4_points 10 (some .int), Cond.fieldLink RX4 35 "HopMeetModel" "prime" "I", Cond.methodLink RX4 57 yX4_ones, Cond.static yX4_ones, Cond.code yX4_ones cX4_ones 3 (some .int), Cond.methodLink RX4 64 yX4_isShut, Cond.instanceMethod yX4_isShut, Cond.selects RX4 yX4_isShut yX4_isShut, Cond.code yX4_isShut cX4_isShut 8 (some .boolean), Cond.methodLink RX4 43 yX4_in, Cond.static yX4_in]
def wsX4_whyNot_r2 : List Cond := [Cond.code yX4_in cX4_in 3 (some .boolean)]
def wsX4_whyNot : List Cond := .code yX4_whyNot cX4_whyNot 4 (some .int) :: ((wsX4_whyNot_r1 ++ wsX4_whyNot_r2) ++ wsX40)
def wsX4_place_r1 : List Cond := [Cond.methodLink RX4 67 yX4_whyNot, Cond.instanceMethod yX4_whyNot, Cond.selects RX4 yX4_whyNot yX4_whyNot, Cond.initialized RX4, Cond.code yX4_whyNot cX4_whyNot 4 (some .int), Cond.methodLink RX4 50 yX4_of, Cond.instanceMethod yX4_of, Cond.selects RX4 yX4_of yX4_of, Cond.code yX4_of cX4_of 3 (some .int), Cond.fieldLink RX4 7 "HopMeetModel" "now" "[I", Cond.methodLink RX4 61 yX4_lands, Cond.instanceMethod yX4_lands, Cond.selects RX4 yX4_lands yX4_lands, Cond.code yX4_lands cX4_lands 7 (some .int), Cond.methodLink RX4 54 yX4_points, Cond.instanceMethod yX4_points, Cond.selects RX4 yX4_points yX4_points, Cond.code yX4_points cX4_points 10 (some .int), Cond.fieldLink RX4 35 "HopMeetModel" "prime" "I", Cond.methodLink RX4 57 yX4_ones, Cond.static yX4_ones, Cond.code yX4_ones cX4_ones 3 (some .int), Cond.methodLink RX4 64 yX4_isShut, Cond.instanceMethod yX4_isShut]
def wsX4_place_r2 : List Cond := [Cond.selects RX4 yX4_isShut yX4_isShut, Cond.code yX4_isShut cX4_isShut 8 (some .boolean), Cond.methodLink RX4 43 yX4_in, Cond.static yX4_in, Cond.code yX4_in cX4_in 3 (some .boolean)]
def wsX4_place : List Cond := .code yX4_place cX4_place 3 (some .int) :: ((wsX4_place_r1 ++ wsX4_place_r2) ++ wsX40)
def wsX4_isMet_r1 : List Cond := [Cond.methodLink RX4 70 yX4_place, Cond.instanceMethod yX4_place, Cond.selects RX4 yX4_place yX4_place, Cond.initialized RX4, Cond.code yX4_place cX4_place 3 (some .int), Cond.methodLink RX4 67 yX4_whyNot, Cond.instanceMethod yX4_whyNot, Cond.selects RX4 yX4_whyNot yX4_whyNot, Cond.code yX4_whyNot cX4_whyNot 4 (some .int), Cond.methodLink RX4 50 yX4_of, Cond.instanceMethod yX4_of, Cond.selects RX4 yX4_of yX4_of, Cond.code yX4_of cX4_of 3 (some .int), Cond.fieldLink RX4 7 "HopMeetModel" "now" "[I", Cond.methodLink RX4 61 yX4_lands, Cond.instanceMethod yX4_lands, Cond.selects RX4 yX4_lands yX4_lands, Cond.code yX4_lands cX4_lands 7 (some .int), Cond.methodLink RX4 54 yX4_points, Cond.instanceMethod yX4_points, Cond.selects RX4 yX4_points yX4_points, Cond.code yX4_points cX4_points 10 (some .int), Cond.fieldLink RX4 35 "HopMeetModel" "prime" "I", Cond.methodLink RX4 57 yX4_ones]
def wsX4_isMet_r2 : List Cond := [Cond.static yX4_ones, Cond.code yX4_ones cX4_ones 3 (some .int), Cond.methodLink RX4 64 yX4_isShut, Cond.instanceMethod yX4_isShut, Cond.selects RX4 yX4_isShut yX4_isShut, Cond.code yX4_isShut cX4_isShut 8 (some .boolean), Cond.methodLink RX4 43 yX4_in, Cond.static yX4_in, Cond.code yX4_in cX4_in 3 (some .boolean)]
def wsX4_isMet : List Cond := .code yX4_isMet cX4_isMet 5 (some .boolean) :: ((wsX4_isMet_r1 ++ wsX4_isMet_r2) ++ wsX40)
def wsX4_note : List Cond := .code yX4_note cX4_note 1 none :: ([.fieldLink RX4 76 "HopMeetModel" "backs" "I", .fieldLink RX4 13 "HopMeetModel" "back" "[I", .fieldLink RX4 7 "HopMeetModel" "now" "[I", .methodLink RX4 79 yX4_bring, .static yX4_bring, .initialized RX4, .code yX4_bring cX4_bring 6 none, .methodLink RX4 32 yX4_anew, .instanceMethod yX4_anew, .selects RX4 yX4_anew yX4_anew, .code yX4_anew cX4_anew 2 none, .fieldLink RX4 73 "HopMeetModel" "slots" "I", .fieldLink RX4 23 "HopMeetModel" "group" "[I"] ++ wsX40)
def wsX4_channels : List Cond := .code yX4_channels cX4_channels 2 (some .int) :: ([.constant RX4 83 (-1000000002), .fieldLink RX4 7 "HopMeetModel" "now" "[I", .fieldLink RX4 76 "HopMeetModel" "backs" "I", .fieldLink RX4 35 "HopMeetModel" "prime" "I", .methodLink RX4 43 yX4_in, .static yX4_in, .initialized RX4, .code yX4_in cX4_in 3 (some .boolean), .methodLink RX4 29 yX4_layPrime, .instanceMethod yX4_layPrime, .selects RX4 yX4_layPrime yX4_layPrime, .code yX4_layPrime cX4_layPrime 1 none, .methodLink RX4 39 yX4_isPrime, .static yX4_isPrime, .code yX4_isPrime cX4_isPrime 3 (some .boolean), .methodLink RX4 32 yX4_anew, .instanceMethod yX4_anew, .selects RX4 yX4_anew yX4_anew, .code yX4_anew cX4_anew 2 none, .fieldLink RX4 73 "HopMeetModel" "slots" "I", .fieldLink RX4 23 "HopMeetModel" "group" "[I"] ++ wsX40)
def wsX4_isBound : List Cond := .code yX4_isBound cX4_isBound 2 (some .boolean) :: ([.methodLink RX4 43 yX4_in, .static yX4_in, .initialized RX4, .code yX4_in cX4_in 3 (some .boolean)])
def wsX4_user_r1 : List Cond := [Cond.constant RX4 83 (-1000000002), Cond.fieldLink RX4 7 "HopMeetModel" "now" "[I", Cond.constant RX4 88 (-1000000004), Cond.methodLink RX4 84 yX4_isBound, Cond.static yX4_isBound, Cond.initialized RX4, Cond.code yX4_isBound cX4_isBound 2 (some .boolean), Cond.methodLink RX4 43 yX4_in, Cond.static yX4_in, Cond.code yX4_in cX4_in 3 (some .boolean), Cond.methodLink RX4 89 yX4_note, Cond.instanceMethod yX4_note, Cond.selects RX4 yX4_note yX4_note, Cond.code yX4_note cX4_note 1 none, Cond.fieldLink RX4 76 "HopMeetModel" "backs" "I", Cond.fieldLink RX4 13 "HopMeetModel" "back" "[I", Cond.methodLink RX4 79 yX4_bring, Cond.static yX4_bring, Cond.code yX4_bring cX4_bring 6 none, Cond.methodLink RX4 32 yX4_anew, Cond.instanceMethod yX4_anew, Cond.selects RX4 yX4_anew yX4_anew, Cond.code yX4_anew cX4_anew 2 none, Cond.fieldLink RX4 73 "HopMeetModel" "slots" "I"]
def wsX4_user_r2 : List Cond := [Cond.fieldLink RX4 23 "HopMeetModel" "group" "[I", Cond.methodLink RX4 92 yX4_all, Cond.instanceMethod yX4_all, Cond.selects RX4 yX4_all yX4_all, Cond.code yX4_all cX4_all 1 (some .int)]
def wsX4_user : List Cond := .code yX4_user cX4_user 6 (some .int) :: ((wsX4_user_r1 ++ wsX4_user_r2) ++ wsX40)
def wsX4_becomes : List Cond := .code yX4_becomes cX4_becomes 5 (some .int) :: ([.fieldLink RX4 7 "HopMeetModel" "now" "[I", .methodLink RX4 89 yX4_note, .instanceMethod yX4_note, .selects RX4 yX4_note yX4_note, .initialized RX4, .code yX4_note cX4_note 1 none, .fieldLink RX4 76 "HopMeetModel" "backs" "I", .fieldLink RX4 13 "HopMeetModel" "back" "[I", .methodLink RX4 79 yX4_bring, .static yX4_bring, .code yX4_bring cX4_bring 6 none, .methodLink RX4 32 yX4_anew, .instanceMethod yX4_anew, .selects RX4 yX4_anew yX4_anew, .code yX4_anew cX4_anew 2 none, .fieldLink RX4 73 "HopMeetModel" "slots" "I", .fieldLink RX4 23 "HopMeetModel" "group" "[I", .methodLink RX4 50 yX4_of, .instanceMethod yX4_of, .selects RX4 yX4_of yX4_of, .code yX4_of cX4_of 3 (some .int)] ++ wsX40)
def wsX4_open_r1 : List Cond := [Cond.constant RX4 96 (-1000000001), Cond.constant RX4 83 (-1000000002), Cond.methodLink RX4 47 yX4_isUser, Cond.instanceMethod yX4_isUser, Cond.selects RX4 yX4_isUser yX4_isUser, Cond.initialized RX4, Cond.code yX4_isUser cX4_isUser 2 (some .boolean), Cond.fieldLink RX4 7 "HopMeetModel" "now" "[I", Cond.methodLink RX4 43 yX4_in, Cond.static yX4_in, Cond.code yX4_in cX4_in 3 (some .boolean), Cond.methodLink RX4 92 yX4_all, Cond.instanceMethod yX4_all, Cond.selects RX4 yX4_all yX4_all, Cond.code yX4_all cX4_all 1 (some .int), Cond.methodLink RX4 97 yX4_becomes, Cond.instanceMethod yX4_becomes, Cond.selects RX4 yX4_becomes yX4_becomes, Cond.code yX4_becomes cX4_becomes 5 (some .int), Cond.methodLink RX4 89 yX4_note, Cond.instanceMethod yX4_note, Cond.selects RX4 yX4_note yX4_note, Cond.code yX4_note cX4_note 1 none, Cond.fieldLink RX4 76 "HopMeetModel" "backs" "I"]
def wsX4_open_r2 : List Cond := [Cond.fieldLink RX4 13 "HopMeetModel" "back" "[I", Cond.methodLink RX4 79 yX4_bring, Cond.static yX4_bring, Cond.code yX4_bring cX4_bring 6 none, Cond.methodLink RX4 32 yX4_anew, Cond.instanceMethod yX4_anew, Cond.selects RX4 yX4_anew yX4_anew, Cond.code yX4_anew cX4_anew 2 none, Cond.fieldLink RX4 73 "HopMeetModel" "slots" "I", Cond.fieldLink RX4 23 "HopMeetModel" "group" "[I", Cond.methodLink RX4 50 yX4_of, Cond.instanceMethod yX4_of, Cond.selects RX4 yX4_of yX4_of, Cond.code yX4_of cX4_of 3 (some .int)]
def wsX4_open : List Cond := .code yX4_open cX4_open 3 (some .int) :: ((wsX4_open_r1 ++ wsX4_open_r2) ++ wsX40)
def wsX4_set_r1 : List Cond := [Cond.constant RX4 96 (-1000000001), Cond.constant RX4 83 (-1000000002), Cond.methodLink RX4 47 yX4_isUser, Cond.instanceMethod yX4_isUser, Cond.selects RX4 yX4_isUser yX4_isUser, Cond.initialized RX4, Cond.code yX4_isUser cX4_isUser 2 (some .boolean), Cond.fieldLink RX4 7 "HopMeetModel" "now" "[I", Cond.methodLink RX4 43 yX4_in, Cond.static yX4_in, Cond.code yX4_in cX4_in 3 (some .boolean), Cond.methodLink RX4 84 yX4_isBound, Cond.static yX4_isBound, Cond.code yX4_isBound cX4_isBound 2 (some .boolean), Cond.methodLink RX4 97 yX4_becomes, Cond.instanceMethod yX4_becomes, Cond.selects RX4 yX4_becomes yX4_becomes, Cond.code yX4_becomes cX4_becomes 5 (some .int), Cond.methodLink RX4 89 yX4_note, Cond.instanceMethod yX4_note, Cond.selects RX4 yX4_note yX4_note, Cond.code yX4_note cX4_note 1 none, Cond.fieldLink RX4 76 "HopMeetModel" "backs" "I", Cond.fieldLink RX4 13 "HopMeetModel" "back" "[I"]
def wsX4_set_r2 : List Cond := [Cond.methodLink RX4 79 yX4_bring, Cond.static yX4_bring, Cond.code yX4_bring cX4_bring 6 none, Cond.methodLink RX4 32 yX4_anew, Cond.instanceMethod yX4_anew, Cond.selects RX4 yX4_anew yX4_anew, Cond.code yX4_anew cX4_anew 2 none, Cond.fieldLink RX4 73 "HopMeetModel" "slots" "I", Cond.fieldLink RX4 23 "HopMeetModel" "group" "[I", Cond.methodLink RX4 50 yX4_of, Cond.instanceMethod yX4_of, Cond.selects RX4 yX4_of yX4_of, Cond.code yX4_of cX4_of 3 (some .int)]
def wsX4_set : List Cond := .code yX4_set cX4_set 4 (some .int) :: ((wsX4_set_r1 ++ wsX4_set_r2) ++ wsX40)
def wsX4_shut_r1 : List Cond := [Cond.fieldLink RX4 7 "HopMeetModel" "now" "[I", Cond.constant RX4 96 (-1000000001), Cond.constant RX4 83 (-1000000002), Cond.constant RX4 88 (-1000000004), Cond.methodLink RX4 47 yX4_isUser, Cond.instanceMethod yX4_isUser, Cond.selects RX4 yX4_isUser yX4_isUser, Cond.initialized RX4, Cond.code yX4_isUser cX4_isUser 2 (some .boolean), Cond.methodLink RX4 43 yX4_in, Cond.static yX4_in, Cond.code yX4_in cX4_in 3 (some .boolean), Cond.methodLink RX4 89 yX4_note, Cond.instanceMethod yX4_note, Cond.selects RX4 yX4_note yX4_note, Cond.code yX4_note cX4_note 1 none, Cond.fieldLink RX4 76 "HopMeetModel" "backs" "I", Cond.fieldLink RX4 13 "HopMeetModel" "back" "[I", Cond.methodLink RX4 79 yX4_bring, Cond.static yX4_bring, Cond.code yX4_bring cX4_bring 6 none, Cond.methodLink RX4 32 yX4_anew, Cond.instanceMethod yX4_anew, Cond.selects RX4 yX4_anew yX4_anew]
def wsX4_shut_r2 : List Cond := [Cond.code yX4_anew cX4_anew 2 none, Cond.fieldLink RX4 73 "HopMeetModel" "slots" "I", Cond.fieldLink RX4 23 "HopMeetModel" "group" "[I"]
def wsX4_shut : List Cond := .code yX4_shut cX4_shut 6 (some .int) :: ((wsX4_shut_r1 ++ wsX4_shut_r2) ++ wsX40)
def wsX4_drawn : List Cond := .code yX4_drawn cX4_drawn 2 (some .int) :: ([.fieldLink RX4 101 "HopMeetModel" "lots" "J", .constantLong RX4 105 (16807), .constantLong RX4 107 (2147483647)] ++ wsX40)
def wsX4_common : List Cond := .code yX4_common cX4_common 3 (some .int) :: ([.fieldLink RX4 7 "HopMeetModel" "now" "[I", .methodLink RX4 92 yX4_all, .instanceMethod yX4_all, .selects RX4 yX4_all yX4_all, .initialized RX4, .code yX4_all cX4_all 1 (some .int), .methodLink RX4 50 yX4_of, .instanceMethod yX4_of, .selects RX4 yX4_of yX4_of, .code yX4_of cX4_of 3 (some .int)] ++ wsX40)
def wsX4_drift_r1 : List Cond := [Cond.constant RX4 109 (999999), Cond.constant RX4 83 (-1000000002), Cond.fieldLink RX4 7 "HopMeetModel" "now" "[I", Cond.constant RX4 110 (-1000000003), Cond.fieldLink RX4 101 "HopMeetModel" "lots" "J", Cond.methodLink RX4 43 yX4_in, Cond.static yX4_in, Cond.initialized RX4, Cond.code yX4_in cX4_in 3 (some .boolean), Cond.methodLink RX4 89 yX4_note, Cond.instanceMethod yX4_note, Cond.selects RX4 yX4_note yX4_note, Cond.code yX4_note cX4_note 1 none, Cond.fieldLink RX4 76 "HopMeetModel" "backs" "I", Cond.fieldLink RX4 13 "HopMeetModel" "back" "[I", Cond.methodLink RX4 79 yX4_bring, Cond.static yX4_bring, Cond.code yX4_bring cX4_bring 6 none, Cond.methodLink RX4 32 yX4_anew, Cond.instanceMethod yX4_anew, Cond.selects RX4 yX4_anew yX4_anew, Cond.code yX4_anew cX4_anew 2 none, Cond.fieldLink RX4 73 "HopMeetModel" "slots" "I", Cond.fieldLink RX4 23 "HopMeetModel" "group" "[I"]
def wsX4_drift_r2 : List Cond := [Cond.methodLink RX4 111 yX4_drawn, Cond.instanceMethod yX4_drawn, Cond.selects RX4 yX4_drawn yX4_drawn, Cond.code yX4_drawn cX4_drawn 2 (some .int), Cond.constantLong RX4 105 (16807), Cond.constantLong RX4 107 (2147483647), Cond.methodLink RX4 114 yX4_common, Cond.instanceMethod yX4_common, Cond.selects RX4 yX4_common yX4_common, Cond.code yX4_common cX4_common 3 (some .int), Cond.methodLink RX4 92 yX4_all, Cond.instanceMethod yX4_all, Cond.selects RX4 yX4_all yX4_all, Cond.code yX4_all cX4_all 1 (some .int), Cond.methodLink RX4 50 yX4_of, Cond.instanceMethod yX4_of, Cond.selects RX4 yX4_of yX4_of, Cond.code yX4_of cX4_of 3 (some .int)]
def wsX4_drift : List Cond := .code yX4_drift cX4_drift 4 (some .int) :: ((wsX4_drift_r1 ++ wsX4_drift_r2) ++ wsX40)
def wsX4_undo : List Cond := .code yX4_undo cX4_undo 1 (some .int) :: ([.fieldLink RX4 76 "HopMeetModel" "backs" "I", .constant RX4 110 (-1000000003), .fieldLink RX4 13 "HopMeetModel" "back" "[I", .fieldLink RX4 7 "HopMeetModel" "now" "[I", .methodLink RX4 79 yX4_bring, .static yX4_bring, .initialized RX4, .code yX4_bring cX4_bring 6 none, .methodLink RX4 32 yX4_anew, .instanceMethod yX4_anew, .selects RX4 yX4_anew yX4_anew, .code yX4_anew cX4_anew 2 none, .fieldLink RX4 73 "HopMeetModel" "slots" "I", .fieldLink RX4 23 "HopMeetModel" "group" "[I"] ++ wsX40)
def wsX4_groups : List Cond := .code yX4_groups cX4_groups 3 (some .int) :: ([.fieldLink RX4 7 "HopMeetModel" "now" "[I", .fieldLink RX4 23 "HopMeetModel" "group" "[I"] ++ wsX40)
def wsX4_told : List Cond := .code yX4_told cX4_told 2 (some .int) :: ([.fieldLink RX4 7 "HopMeetModel" "now" "[I", .fieldLink RX4 35 "HopMeetModel" "prime" "I", .fieldLink RX4 73 "HopMeetModel" "slots" "I", .fieldLink RX4 76 "HopMeetModel" "backs" "I", .constant RX4 83 (-1000000002), .methodLink RX4 114 yX4_common, .instanceMethod yX4_common, .selects RX4 yX4_common yX4_common, .initialized RX4, .code yX4_common cX4_common 3 (some .int), .methodLink RX4 92 yX4_all, .instanceMethod yX4_all, .selects RX4 yX4_all yX4_all, .code yX4_all cX4_all 1 (some .int), .methodLink RX4 50 yX4_of, .instanceMethod yX4_of, .selects RX4 yX4_of yX4_of, .code yX4_of cX4_of 3 (some .int), .methodLink RX4 117 yX4_groups, .instanceMethod yX4_groups, .selects RX4 yX4_groups yX4_groups, .code yX4_groups cX4_groups 3 (some .int), .fieldLink RX4 23 "HopMeetModel" "group" "[I"] ++ wsX40)
def wsX4_userOf : List Cond := .code yX4_userOf cX4_userOf 5 (some .int) :: ([.constant RX4 96 (-1000000001), .constant RX4 83 (-1000000002), .fieldLink RX4 7 "HopMeetModel" "now" "[I", .fieldLink RX4 23 "HopMeetModel" "group" "[I", .methodLink RX4 47 yX4_isUser, .instanceMethod yX4_isUser, .selects RX4 yX4_isUser yX4_isUser, .initialized RX4, .code yX4_isUser cX4_isUser 2 (some .boolean), .methodLink RX4 43 yX4_in, .static yX4_in, .code yX4_in cX4_in 3 (some .boolean), .methodLink RX4 50 yX4_of, .instanceMethod yX4_of, .selects RX4 yX4_of yX4_of, .code yX4_of cX4_of 3 (some .int)] ++ wsX40)
def wsX4_pointsAt : List Cond := .code yX4_pointsAt cX4_pointsAt 3 (some .int) :: ([.constant RX4 96 (-1000000001), .constant RX4 83 (-1000000002), .methodLink RX4 47 yX4_isUser, .instanceMethod yX4_isUser, .selects RX4 yX4_isUser yX4_isUser, .initialized RX4, .code yX4_isUser cX4_isUser 2 (some .boolean), .fieldLink RX4 7 "HopMeetModel" "now" "[I", .methodLink RX4 43 yX4_in, .static yX4_in, .code yX4_in cX4_in 3 (some .boolean), .methodLink RX4 50 yX4_of, .instanceMethod yX4_of, .selects RX4 yX4_of yX4_of, .code yX4_of cX4_of 3 (some .int), .methodLink RX4 54 yX4_points, .instanceMethod yX4_points, .selects RX4 yX4_points yX4_points, .code yX4_points cX4_points 10 (some .int), .fieldLink RX4 35 "HopMeetModel" "prime" "I"] ++ wsX40)
def wsX4_on_r1 : List Cond := [Cond.constant RX4 96 (-1000000001), Cond.constant RX4 83 (-1000000002), Cond.methodLink RX4 47 yX4_isUser, Cond.instanceMethod yX4_isUser, Cond.selects RX4 yX4_isUser yX4_isUser, Cond.initialized RX4, Cond.code yX4_isUser cX4_isUser 2 (some .boolean), Cond.fieldLink RX4 7 "HopMeetModel" "now" "[I", Cond.methodLink RX4 43 yX4_in, Cond.static yX4_in, Cond.code yX4_in cX4_in 3 (some .boolean), Cond.methodLink RX4 70 yX4_place, Cond.instanceMethod yX4_place, Cond.selects RX4 yX4_place yX4_place, Cond.code yX4_place cX4_place 3 (some .int), Cond.methodLink RX4 67 yX4_whyNot, Cond.instanceMethod yX4_whyNot, Cond.selects RX4 yX4_whyNot yX4_whyNot, Cond.code yX4_whyNot cX4_whyNot 4 (some .int), Cond.methodLink RX4 50 yX4_of, Cond.instanceMethod yX4_of, Cond.selects RX4 yX4_of yX4_of, Cond.code yX4_of cX4_of 3 (some .int), Cond.methodLink RX4 61 yX4_lands]
def wsX4_on_r2 : List Cond := [Cond.instanceMethod yX4_lands, Cond.selects RX4 yX4_lands yX4_lands, Cond.code yX4_lands cX4_lands 7 (some .int), Cond.methodLink RX4 54 yX4_points, Cond.instanceMethod yX4_points, Cond.selects RX4 yX4_points yX4_points, Cond.code yX4_points cX4_points 10 (some .int), Cond.fieldLink RX4 35 "HopMeetModel" "prime" "I", Cond.methodLink RX4 57 yX4_ones, Cond.static yX4_ones, Cond.code yX4_ones cX4_ones 3 (some .int), Cond.methodLink RX4 64 yX4_isShut, Cond.instanceMethod yX4_isShut, Cond.selects RX4 yX4_isShut yX4_isShut, Cond.code yX4_isShut cX4_isShut 8 (some .boolean)]
def wsX4_on : List Cond := .code yX4_on cX4_on 3 (some .int) :: ((wsX4_on_r1 ++ wsX4_on_r2) ++ wsX40)
def wsX4_why_r1 : List Cond := [Cond.constant RX4 96 (-1000000001), Cond.constant RX4 83 (-1000000002), Cond.methodLink RX4 47 yX4_isUser, Cond.instanceMethod yX4_isUser, Cond.selects RX4 yX4_isUser yX4_isUser, Cond.initialized RX4, Cond.code yX4_isUser cX4_isUser 2 (some .boolean), Cond.fieldLink RX4 7 "HopMeetModel" "now" "[I", Cond.methodLink RX4 43 yX4_in, Cond.static yX4_in, Cond.code yX4_in cX4_in 3 (some .boolean), Cond.methodLink RX4 67 yX4_whyNot, Cond.instanceMethod yX4_whyNot, Cond.selects RX4 yX4_whyNot yX4_whyNot, Cond.code yX4_whyNot cX4_whyNot 4 (some .int), Cond.methodLink RX4 50 yX4_of, Cond.instanceMethod yX4_of, Cond.selects RX4 yX4_of yX4_of, Cond.code yX4_of cX4_of 3 (some .int), Cond.methodLink RX4 61 yX4_lands, Cond.instanceMethod yX4_lands, Cond.selects RX4 yX4_lands yX4_lands, Cond.code yX4_lands cX4_lands 7 (some .int), Cond.methodLink RX4 54 yX4_points]
def wsX4_why_r2 : List Cond := [Cond.instanceMethod yX4_points, Cond.selects RX4 yX4_points yX4_points, Cond.code yX4_points cX4_points 10 (some .int), Cond.fieldLink RX4 35 "HopMeetModel" "prime" "I", Cond.methodLink RX4 57 yX4_ones, Cond.static yX4_ones, Cond.code yX4_ones cX4_ones 3 (some .int), Cond.methodLink RX4 64 yX4_isShut, Cond.instanceMethod yX4_isShut, Cond.selects RX4 yX4_isShut yX4_isShut, Cond.code yX4_isShut cX4_isShut 8 (some .boolean)]
def wsX4_why : List Cond := .code yX4_why cX4_why 3 (some .int) :: ((wsX4_why_r1 ++ wsX4_why_r2) ++ wsX40)
def wsX4_first_r1 : List Cond := [Cond.constant RX4 96 (-1000000001), Cond.methodLink RX4 120 yX4_areTwo, Cond.instanceMethod yX4_areTwo, Cond.selects RX4 yX4_areTwo yX4_areTwo, Cond.initialized RX4, Cond.code yX4_areTwo cX4_areTwo 3 (some .boolean), Cond.methodLink RX4 47 yX4_isUser, Cond.instanceMethod yX4_isUser, Cond.selects RX4 yX4_isUser yX4_isUser, Cond.code yX4_isUser cX4_isUser 2 (some .boolean), Cond.fieldLink RX4 7 "HopMeetModel" "now" "[I", Cond.methodLink RX4 43 yX4_in, Cond.static yX4_in, Cond.code yX4_in cX4_in 3 (some .boolean), Cond.methodLink RX4 123 yX4_isMet, Cond.instanceMethod yX4_isMet, Cond.selects RX4 yX4_isMet yX4_isMet, Cond.code yX4_isMet cX4_isMet 5 (some .boolean), Cond.methodLink RX4 70 yX4_place, Cond.instanceMethod yX4_place, Cond.selects RX4 yX4_place yX4_place, Cond.code yX4_place cX4_place 3 (some .int), Cond.methodLink RX4 67 yX4_whyNot, Cond.instanceMethod yX4_whyNot]
def wsX4_first_r2 : List Cond := [Cond.selects RX4 yX4_whyNot yX4_whyNot, Cond.code yX4_whyNot cX4_whyNot 4 (some .int), Cond.methodLink RX4 50 yX4_of, Cond.instanceMethod yX4_of, Cond.selects RX4 yX4_of yX4_of, Cond.code yX4_of cX4_of 3 (some .int), Cond.methodLink RX4 61 yX4_lands, Cond.instanceMethod yX4_lands, Cond.selects RX4 yX4_lands yX4_lands, Cond.code yX4_lands cX4_lands 7 (some .int), Cond.methodLink RX4 54 yX4_points, Cond.instanceMethod yX4_points, Cond.selects RX4 yX4_points yX4_points, Cond.code yX4_points cX4_points 10 (some .int), Cond.fieldLink RX4 35 "HopMeetModel" "prime" "I", Cond.methodLink RX4 57 yX4_ones, Cond.static yX4_ones, Cond.code yX4_ones cX4_ones 3 (some .int), Cond.methodLink RX4 64 yX4_isShut, Cond.instanceMethod yX4_isShut, Cond.selects RX4 yX4_isShut yX4_isShut, Cond.code yX4_isShut cX4_isShut 8 (some .boolean)]
def wsX4_first : List Cond := .code yX4_first cX4_first 4 (some .int) :: ((wsX4_first_r1 ++ wsX4_first_r2) ++ wsX40)
def wsX4_worstOf : List Cond := .code yX4_worstOf cX4_worstOf 7 (some .int) :: ([.constant RX4 126 (99999), .methodLink RX4 50 yX4_of, .instanceMethod yX4_of, .selects RX4 yX4_of yX4_of, .initialized RX4, .code yX4_of cX4_of 3 (some .int), .fieldLink RX4 7 "HopMeetModel" "now" "[I", .methodLink RX4 61 yX4_lands, .instanceMethod yX4_lands, .selects RX4 yX4_lands yX4_lands, .code yX4_lands cX4_lands 7 (some .int), .methodLink RX4 54 yX4_points, .instanceMethod yX4_points, .selects RX4 yX4_points yX4_points, .code yX4_points cX4_points 10 (some .int), .fieldLink RX4 35 "HopMeetModel" "prime" "I", .methodLink RX4 57 yX4_ones, .static yX4_ones, .code yX4_ones cX4_ones 3 (some .int)] ++ wsX40)
def wsX4_worst_r1 : List Cond := [Cond.constant RX4 96 (-1000000001), Cond.constant RX4 83 (-1000000002), Cond.methodLink RX4 120 yX4_areTwo, Cond.instanceMethod yX4_areTwo, Cond.selects RX4 yX4_areTwo yX4_areTwo, Cond.initialized RX4, Cond.code yX4_areTwo cX4_areTwo 3 (some .boolean), Cond.methodLink RX4 47 yX4_isUser, Cond.instanceMethod yX4_isUser, Cond.selects RX4 yX4_isUser yX4_isUser, Cond.code yX4_isUser cX4_isUser 2 (some .boolean), Cond.fieldLink RX4 7 "HopMeetModel" "now" "[I", Cond.methodLink RX4 43 yX4_in, Cond.static yX4_in, Cond.code yX4_in cX4_in 3 (some .boolean), Cond.methodLink RX4 127 yX4_worstOf, Cond.instanceMethod yX4_worstOf, Cond.selects RX4 yX4_worstOf yX4_worstOf, Cond.code yX4_worstOf cX4_worstOf 7 (some .int), Cond.constant RX4 126 (99999), Cond.methodLink RX4 50 yX4_of, Cond.instanceMethod yX4_of, Cond.selects RX4 yX4_of yX4_of, Cond.code yX4_of cX4_of 3 (some .int)]
def wsX4_worst_r2 : List Cond := [Cond.methodLink RX4 61 yX4_lands, Cond.instanceMethod yX4_lands, Cond.selects RX4 yX4_lands yX4_lands, Cond.code yX4_lands cX4_lands 7 (some .int), Cond.methodLink RX4 54 yX4_points, Cond.instanceMethod yX4_points, Cond.selects RX4 yX4_points yX4_points, Cond.code yX4_points cX4_points 10 (some .int), Cond.fieldLink RX4 35 "HopMeetModel" "prime" "I", Cond.methodLink RX4 57 yX4_ones, Cond.static yX4_ones, Cond.code yX4_ones cX4_ones 3 (some .int)]
def wsX4_worst : List Cond := .code yX4_worst cX4_worst 4 (some .int) :: ((wsX4_worst_r1 ++ wsX4_worst_r2) ++ wsX40)
def wsX4_bound_r1 : List Cond := [Cond.constant RX4 96 (-1000000001), Cond.constant RX4 83 (-1000000002), Cond.methodLink RX4 120 yX4_areTwo, Cond.instanceMethod yX4_areTwo, Cond.selects RX4 yX4_areTwo yX4_areTwo, Cond.initialized RX4, Cond.code yX4_areTwo cX4_areTwo 3 (some .boolean), Cond.methodLink RX4 47 yX4_isUser, Cond.instanceMethod yX4_isUser, Cond.selects RX4 yX4_isUser yX4_isUser, Cond.code yX4_isUser cX4_isUser 2 (some .boolean), Cond.fieldLink RX4 7 "HopMeetModel" "now" "[I", Cond.methodLink RX4 43 yX4_in, Cond.static yX4_in, Cond.code yX4_in cX4_in 3 (some .boolean), Cond.methodLink RX4 127 yX4_worstOf, Cond.instanceMethod yX4_worstOf, Cond.selects RX4 yX4_worstOf yX4_worstOf, Cond.code yX4_worstOf cX4_worstOf 7 (some .int), Cond.constant RX4 126 (99999), Cond.methodLink RX4 50 yX4_of, Cond.instanceMethod yX4_of, Cond.selects RX4 yX4_of yX4_of, Cond.code yX4_of cX4_of 3 (some .int)]
def wsX4_bound_r2 : List Cond := [Cond.methodLink RX4 61 yX4_lands, Cond.instanceMethod yX4_lands, Cond.selects RX4 yX4_lands yX4_lands, Cond.code yX4_lands cX4_lands 7 (some .int), Cond.methodLink RX4 54 yX4_points, Cond.instanceMethod yX4_points, Cond.selects RX4 yX4_points yX4_points, Cond.code yX4_points cX4_points 10 (some .int), Cond.fieldLink RX4 35 "HopMeetModel" "prime" "I", Cond.methodLink RX4 57 yX4_ones, Cond.static yX4_ones, Cond.code yX4_ones cX4_ones 3 (some .int)]
def wsX4_bound : List Cond := .code yX4_bound cX4_bound 5 (some .int) :: ((wsX4_bound_r1 ++ wsX4_bound_r2) ++ wsX40)
def wsX4_together_r1 : List Cond := [Cond.constant RX4 96 (-1000000001), Cond.constant RX4 83 (-1000000002), Cond.methodLink RX4 120 yX4_areTwo, Cond.instanceMethod yX4_areTwo, Cond.selects RX4 yX4_areTwo yX4_areTwo, Cond.initialized RX4, Cond.code yX4_areTwo cX4_areTwo 3 (some .boolean), Cond.methodLink RX4 47 yX4_isUser, Cond.instanceMethod yX4_isUser, Cond.selects RX4 yX4_isUser yX4_isUser, Cond.code yX4_isUser cX4_isUser 2 (some .boolean), Cond.fieldLink RX4 7 "HopMeetModel" "now" "[I", Cond.methodLink RX4 43 yX4_in, Cond.static yX4_in, Cond.code yX4_in cX4_in 3 (some .boolean), Cond.methodLink RX4 123 yX4_isMet, Cond.instanceMethod yX4_isMet, Cond.selects RX4 yX4_isMet yX4_isMet, Cond.code yX4_isMet cX4_isMet 5 (some .boolean), Cond.methodLink RX4 70 yX4_place, Cond.instanceMethod yX4_place, Cond.selects RX4 yX4_place yX4_place, Cond.code yX4_place cX4_place 3 (some .int), Cond.methodLink RX4 67 yX4_whyNot]
def wsX4_together_r2 : List Cond := [Cond.instanceMethod yX4_whyNot, Cond.selects RX4 yX4_whyNot yX4_whyNot, Cond.code yX4_whyNot cX4_whyNot 4 (some .int), Cond.methodLink RX4 50 yX4_of, Cond.instanceMethod yX4_of, Cond.selects RX4 yX4_of yX4_of, Cond.code yX4_of cX4_of 3 (some .int), Cond.methodLink RX4 61 yX4_lands, Cond.instanceMethod yX4_lands, Cond.selects RX4 yX4_lands yX4_lands, Cond.code yX4_lands cX4_lands 7 (some .int), Cond.methodLink RX4 54 yX4_points, Cond.instanceMethod yX4_points, Cond.selects RX4 yX4_points yX4_points, Cond.code yX4_points cX4_points 10 (some .int), Cond.fieldLink RX4 35 "HopMeetModel" "prime" "I", Cond.methodLink RX4 57 yX4_ones, Cond.static yX4_ones, Cond.code yX4_ones cX4_ones 3 (some .int), Cond.methodLink RX4 64 yX4_isShut, Cond.instanceMethod yX4_isShut, Cond.selects RX4 yX4_isShut yX4_isShut, Cond.code yX4_isShut cX4_isShut 8 (some .boolean)]
def wsX4_together : List Cond := .code yX4_together cX4_together 6 (some .int) :: ((wsX4_together_r1 ++ wsX4_together_r2) ++ wsX40)
def wsX4_even_r1 : List Cond := [Cond.constant RX4 96 (-1000000001), Cond.constant RX4 83 (-1000000002), Cond.fieldLink RX4 26 "HopMeetModel" "many" "[I", Cond.fieldLink RX4 7 "HopMeetModel" "now" "[I", Cond.methodLink RX4 47 yX4_isUser, Cond.instanceMethod yX4_isUser, Cond.selects RX4 yX4_isUser yX4_isUser, Cond.initialized RX4, Cond.code yX4_isUser cX4_isUser 2 (some .boolean), Cond.methodLink RX4 43 yX4_in, Cond.static yX4_in, Cond.code yX4_in cX4_in 3 (some .boolean), Cond.methodLink RX4 50 yX4_of, Cond.instanceMethod yX4_of, Cond.selects RX4 yX4_of yX4_of, Cond.code yX4_of cX4_of 3 (some .int), Cond.methodLink RX4 61 yX4_lands, Cond.instanceMethod yX4_lands, Cond.selects RX4 yX4_lands yX4_lands, Cond.code yX4_lands cX4_lands 7 (some .int), Cond.methodLink RX4 54 yX4_points, Cond.instanceMethod yX4_points, Cond.selects RX4 yX4_points yX4_points, Cond.code yX4_points cX4_points 10 (some .int)]
def wsX4_even_r2 : List Cond := [Cond.fieldLink RX4 35 "HopMeetModel" "prime" "I", Cond.methodLink RX4 57 yX4_ones, Cond.static yX4_ones, Cond.code yX4_ones cX4_ones 3 (some .int)]
def wsX4_even : List Cond := .code yX4_even cX4_even 8 (some .int) :: ((wsX4_even_r1 ++ wsX4_even_r2) ++ wsX40)
def wsX4_join : List Cond := .code yX4_join cX4_join 4 none :: ([.fieldLink RX4 7 "HopMeetModel" "now" "[I", .fieldLink RX4 23 "HopMeetModel" "group" "[I"] ++ wsX40)
def wsX4_slot_r1 : List Cond := [Cond.fieldLink RX4 7 "HopMeetModel" "now" "[I", Cond.fieldLink RX4 23 "HopMeetModel" "group" "[I", Cond.fieldLink RX4 73 "HopMeetModel" "slots" "I", Cond.methodLink RX4 123 yX4_isMet, Cond.instanceMethod yX4_isMet, Cond.selects RX4 yX4_isMet yX4_isMet, Cond.initialized RX4, Cond.code yX4_isMet cX4_isMet 5 (some .boolean), Cond.methodLink RX4 70 yX4_place, Cond.instanceMethod yX4_place, Cond.selects RX4 yX4_place yX4_place, Cond.code yX4_place cX4_place 3 (some .int), Cond.methodLink RX4 67 yX4_whyNot, Cond.instanceMethod yX4_whyNot, Cond.selects RX4 yX4_whyNot yX4_whyNot, Cond.code yX4_whyNot cX4_whyNot 4 (some .int), Cond.methodLink RX4 50 yX4_of, Cond.instanceMethod yX4_of, Cond.selects RX4 yX4_of yX4_of, Cond.code yX4_of cX4_of 3 (some .int), Cond.methodLink RX4 61 yX4_lands, Cond.instanceMethod yX4_lands, Cond.selects RX4 yX4_lands yX4_lands, Cond.code yX4_lands cX4_lands 7 (some .int)]
def wsX4_slot_r2 : List Cond := [Cond.methodLink RX4 54 yX4_points, Cond.instanceMethod yX4_points, Cond.selects RX4 yX4_points yX4_points, Cond.code yX4_points cX4_points 10 (some .int), Cond.fieldLink RX4 35 "HopMeetModel" "prime" "I", Cond.methodLink RX4 57 yX4_ones, Cond.static yX4_ones, Cond.code yX4_ones cX4_ones 3 (some .int), Cond.methodLink RX4 64 yX4_isShut, Cond.instanceMethod yX4_isShut, Cond.selects RX4 yX4_isShut yX4_isShut, Cond.code yX4_isShut cX4_isShut 8 (some .boolean), Cond.methodLink RX4 43 yX4_in, Cond.static yX4_in, Cond.code yX4_in cX4_in 3 (some .boolean), Cond.methodLink RX4 130 yX4_join, Cond.instanceMethod yX4_join, Cond.selects RX4 yX4_join yX4_join, Cond.code yX4_join cX4_join 4 none]
def wsX4_slot : List Cond := .code yX4_slot cX4_slot 3 none :: ((wsX4_slot_r1 ++ wsX4_slot_r2) ++ wsX40)
def wsX4_run_r1 : List Cond := [Cond.constant RX4 83 (-1000000002), Cond.fieldLink RX4 7 "HopMeetModel" "now" "[I", Cond.constant RX4 110 (-1000000003), Cond.fieldLink RX4 73 "HopMeetModel" "slots" "I", Cond.constant RX4 88 (-1000000004), Cond.methodLink RX4 43 yX4_in, Cond.static yX4_in, Cond.initialized RX4, Cond.code yX4_in cX4_in 3 (some .boolean), Cond.methodLink RX4 134 yX4_slot, Cond.instanceMethod yX4_slot, Cond.selects RX4 yX4_slot yX4_slot, Cond.code yX4_slot cX4_slot 3 none, Cond.fieldLink RX4 23 "HopMeetModel" "group" "[I", Cond.methodLink RX4 123 yX4_isMet, Cond.instanceMethod yX4_isMet, Cond.selects RX4 yX4_isMet yX4_isMet, Cond.code yX4_isMet cX4_isMet 5 (some .boolean), Cond.methodLink RX4 70 yX4_place, Cond.instanceMethod yX4_place, Cond.selects RX4 yX4_place yX4_place, Cond.code yX4_place cX4_place 3 (some .int), Cond.methodLink RX4 67 yX4_whyNot, Cond.instanceMethod yX4_whyNot]
def wsX4_run_r2 : List Cond := [Cond.selects RX4 yX4_whyNot yX4_whyNot, Cond.code yX4_whyNot cX4_whyNot 4 (some .int), Cond.methodLink RX4 50 yX4_of, Cond.instanceMethod yX4_of, Cond.selects RX4 yX4_of yX4_of, Cond.code yX4_of cX4_of 3 (some .int), Cond.methodLink RX4 61 yX4_lands, Cond.instanceMethod yX4_lands, Cond.selects RX4 yX4_lands yX4_lands, Cond.code yX4_lands cX4_lands 7 (some .int), Cond.methodLink RX4 54 yX4_points, Cond.instanceMethod yX4_points, Cond.selects RX4 yX4_points yX4_points, Cond.code yX4_points cX4_points 10 (some .int), Cond.fieldLink RX4 35 "HopMeetModel" "prime" "I", Cond.methodLink RX4 57 yX4_ones, Cond.static yX4_ones, Cond.code yX4_ones cX4_ones 3 (some .int), Cond.methodLink RX4 64 yX4_isShut, Cond.instanceMethod yX4_isShut, Cond.selects RX4 yX4_isShut yX4_isShut, Cond.code yX4_isShut cX4_isShut 8 (some .boolean), Cond.methodLink RX4 130 yX4_join, Cond.instanceMethod yX4_join]
def wsX4_run_r3 : List Cond := [Cond.selects RX4 yX4_join yX4_join, Cond.code yX4_join cX4_join 4 none, Cond.methodLink RX4 117 yX4_groups, Cond.instanceMethod yX4_groups, Cond.selects RX4 yX4_groups yX4_groups, Cond.code yX4_groups cX4_groups 3 (some .int)]
def wsX4_run : List Cond := .code yX4_run cX4_run 3 (some .int) :: ((wsX4_run_r1 ++ (wsX4_run_r2 ++ wsX4_run_r3)) ++ wsX40)
def wsX4_merge_r1 : List Cond := [Cond.fieldLink RX4 7 "HopMeetModel" "now" "[I", Cond.constant RX4 110 (-1000000003), Cond.fieldLink RX4 73 "HopMeetModel" "slots" "I", Cond.methodLink RX4 117 yX4_groups, Cond.instanceMethod yX4_groups, Cond.selects RX4 yX4_groups yX4_groups, Cond.initialized RX4, Cond.code yX4_groups cX4_groups 3 (some .int), Cond.fieldLink RX4 23 "HopMeetModel" "group" "[I", Cond.methodLink RX4 134 yX4_slot, Cond.instanceMethod yX4_slot, Cond.selects RX4 yX4_slot yX4_slot, Cond.code yX4_slot cX4_slot 3 none, Cond.methodLink RX4 123 yX4_isMet, Cond.instanceMethod yX4_isMet, Cond.selects RX4 yX4_isMet yX4_isMet, Cond.code yX4_isMet cX4_isMet 5 (some .boolean), Cond.methodLink RX4 70 yX4_place, Cond.instanceMethod yX4_place, Cond.selects RX4 yX4_place yX4_place, Cond.code yX4_place cX4_place 3 (some .int), Cond.methodLink RX4 67 yX4_whyNot, Cond.instanceMethod yX4_whyNot, Cond.selects RX4 yX4_whyNot yX4_whyNot]
def wsX4_merge_r2 : List Cond := [Cond.code yX4_whyNot cX4_whyNot 4 (some .int), Cond.methodLink RX4 50 yX4_of, Cond.instanceMethod yX4_of, Cond.selects RX4 yX4_of yX4_of, Cond.code yX4_of cX4_of 3 (some .int), Cond.methodLink RX4 61 yX4_lands, Cond.instanceMethod yX4_lands, Cond.selects RX4 yX4_lands yX4_lands, Cond.code yX4_lands cX4_lands 7 (some .int), Cond.methodLink RX4 54 yX4_points, Cond.instanceMethod yX4_points, Cond.selects RX4 yX4_points yX4_points, Cond.code yX4_points cX4_points 10 (some .int), Cond.fieldLink RX4 35 "HopMeetModel" "prime" "I", Cond.methodLink RX4 57 yX4_ones, Cond.static yX4_ones, Cond.code yX4_ones cX4_ones 3 (some .int), Cond.methodLink RX4 64 yX4_isShut, Cond.instanceMethod yX4_isShut, Cond.selects RX4 yX4_isShut yX4_isShut, Cond.code yX4_isShut cX4_isShut 8 (some .boolean), Cond.methodLink RX4 43 yX4_in, Cond.static yX4_in, Cond.code yX4_in cX4_in 3 (some .boolean)]
def wsX4_merge_r3 : List Cond := [Cond.methodLink RX4 130 yX4_join, Cond.instanceMethod yX4_join, Cond.selects RX4 yX4_join yX4_join, Cond.code yX4_join cX4_join 4 none]
def wsX4_merge : List Cond := .code yX4_merge cX4_merge 2 (some .int) :: ((wsX4_merge_r1 ++ (wsX4_merge_r2 ++ wsX4_merge_r3)) ++ wsX40)
def wsX4_part : List Cond := .code yX4_part cX4_part 2 (some .int) :: ([.fieldLink RX4 73 "HopMeetModel" "slots" "I", .methodLink RX4 32 yX4_anew, .instanceMethod yX4_anew, .selects RX4 yX4_anew yX4_anew, .initialized RX4, .code yX4_anew cX4_anew 2 none, .fieldLink RX4 23 "HopMeetModel" "group" "[I"] ++ wsX40)
def wsX4_keep : List Cond := .code yX4_keep cX4_keep 2 (some .int) :: ([.constant RX4 96 (-1000000001), .fieldLink RX4 7 "HopMeetModel" "now" "[I", .fieldLink RX4 16 "HopMeetModel" "image" "[I", .fieldLink RX4 19 "HopMeetModel" "isKept" "[Z", .methodLink RX4 43 yX4_in, .static yX4_in, .initialized RX4, .code yX4_in cX4_in 3 (some .boolean), .methodLink RX4 79 yX4_bring, .static yX4_bring, .code yX4_bring cX4_bring 6 none] ++ wsX40)
def wsX4_goBack_r1 : List Cond := [Cond.constant RX4 96 (-1000000001), Cond.fieldLink RX4 19 "HopMeetModel" "isKept" "[Z", Cond.constant RX4 110 (-1000000003), Cond.fieldLink RX4 16 "HopMeetModel" "image" "[I", Cond.fieldLink RX4 7 "HopMeetModel" "now" "[I", Cond.fieldLink RX4 76 "HopMeetModel" "backs" "I", Cond.methodLink RX4 43 yX4_in, Cond.static yX4_in, Cond.initialized RX4, Cond.code yX4_in cX4_in 3 (some .boolean), Cond.methodLink RX4 79 yX4_bring, Cond.static yX4_bring, Cond.code yX4_bring cX4_bring 6 none, Cond.methodLink RX4 29 yX4_layPrime, Cond.instanceMethod yX4_layPrime, Cond.selects RX4 yX4_layPrime yX4_layPrime, Cond.code yX4_layPrime cX4_layPrime 1 none, Cond.fieldLink RX4 35 "HopMeetModel" "prime" "I", Cond.methodLink RX4 39 yX4_isPrime, Cond.static yX4_isPrime, Cond.code yX4_isPrime cX4_isPrime 3 (some .boolean), Cond.methodLink RX4 32 yX4_anew, Cond.instanceMethod yX4_anew, Cond.selects RX4 yX4_anew yX4_anew]
def wsX4_goBack_r2 : List Cond := [Cond.code yX4_anew cX4_anew 2 none, Cond.fieldLink RX4 73 "HopMeetModel" "slots" "I", Cond.fieldLink RX4 23 "HopMeetModel" "group" "[I"]
def wsX4_goBack : List Cond := .code yX4_goBack cX4_goBack 2 (some .int) :: ((wsX4_goBack_r1 ++ wsX4_goBack_r2) ++ wsX40)
def wsJ9_max_7cf53 : List Cond := .code yJ9_max_7cf53 cJ9_max_7cf53 2 (some .int) :: ([])
def wsJ9_min_7cf53 : List Cond := .code yJ9_min_7cf53 cJ9_min_7cf53 2 (some .int) :: ([])
theorem dX0_init_0 : decode cX0_init 0 = .ok (.aload_n 0, 1) := by decide +kernel
theorem dX0_init_1 : decode cX0_init 1 = .ok (.invokespecial 3, 3) := by decide +kernel
theorem dX0_init_4 : decode cX0_init 4 = .ok (.aload_n 0, 1) := by decide +kernel
theorem dX0_init_5 : decode cX0_init 5 = .ok (.iconst 5, 1) := by decide +kernel
theorem dX0_init_6 : decode cX0_init 6 = .ok (.newarray .int, 2) := by decide +kernel
theorem dX0_init_8 : decode cX0_init 8 = .ok (.putfield 9, 3) := by decide +kernel
theorem dX0_init_11 : decode cX0_init 11 = .ok (.aload_n 0, 1) := by decide +kernel
theorem dX0_init_12 : decode cX0_init 12 = .ok (.bipush 10, 2) := by decide +kernel
theorem dX0_init_14 : decode cX0_init 14 = .ok (.newarray .int, 2) := by decide +kernel
theorem dX0_init_16 : decode cX0_init 16 = .ok (.putfield 15, 3) := by decide +kernel
theorem dX0_init_19 : decode cX0_init 19 = .ok (.return_, 1) := by decide +kernel
theorem dX0_begin_0 : decode cX0_begin 0 = .ok (.aload_n 0, 1) := by decide +kernel
theorem dX0_begin_1 : decode cX0_begin 1 = .ok (.iconst 0, 1) := by decide +kernel
theorem dX0_begin_2 : decode cX0_begin 2 = .ok (.putfield 18, 3) := by decide +kernel
theorem dX0_begin_5 : decode cX0_begin 5 = .ok (.aload_n 0, 1) := by decide +kernel
theorem dX0_begin_6 : decode cX0_begin 6 = .ok (.iload_n 1, 1) := by decide +kernel
theorem dX0_begin_7 : decode cX0_begin 7 = .ok (.putfield 22, 3) := by decide +kernel
theorem dX0_begin_10 : decode cX0_begin 10 = .ok (.iconst 0, 1) := by decide +kernel
theorem dX0_begin_11 : decode cX0_begin 11 = .ok (.istore_n 2, 1) := by decide +kernel
theorem dX0_begin_12 : decode cX0_begin 12 = .ok (.iload_n 2, 1) := by decide +kernel
theorem dX0_begin_13 : decode cX0_begin 13 = .ok (.iload_n 1, 1) := by decide +kernel
theorem dX0_begin_14 : decode cX0_begin 14 = .ok (.if_icmp .ge 16, 3) := by decide +kernel
theorem dX0_begin_17 : decode cX0_begin 17 = .ok (.aload_n 0, 1) := by decide +kernel
theorem dX0_begin_18 : decode cX0_begin 18 = .ok (.getfield 9, 3) := by decide +kernel
theorem dX0_begin_21 : decode cX0_begin 21 = .ok (.iload_n 2, 1) := by decide +kernel
theorem dX0_begin_22 : decode cX0_begin 22 = .ok (.iload_n 2, 1) := by decide +kernel
theorem dX0_begin_23 : decode cX0_begin 23 = .ok (.iastore, 1) := by decide +kernel
theorem dX0_begin_24 : decode cX0_begin 24 = .ok (.iinc 2 1, 3) := by decide +kernel
theorem dX0_begin_27 : decode cX0_begin 27 = .ok (.goto (-15), 3) := by decide +kernel
theorem dX0_begin_30 : decode cX0_begin 30 = .ok (.return_, 1) := by decide +kernel
theorem dX0_howMany_0 : decode cX0_howMany 0 = .ok (.iconst 0, 1) := by decide +kernel
theorem dX0_howMany_1 : decode cX0_howMany 1 = .ok (.istore_n 1, 1) := by decide +kernel
theorem dX0_howMany_2 : decode cX0_howMany 2 = .ok (.iconst 0, 1) := by decide +kernel
theorem dX0_howMany_3 : decode cX0_howMany 3 = .ok (.istore_n 2, 1) := by decide +kernel
theorem dX0_howMany_4 : decode cX0_howMany 4 = .ok (.iload_n 2, 1) := by decide +kernel
theorem dX0_howMany_5 : decode cX0_howMany 5 = .ok (.aload_n 0, 1) := by decide +kernel
theorem dX0_howMany_6 : decode cX0_howMany 6 = .ok (.getfield 22, 3) := by decide +kernel
theorem dX0_howMany_9 : decode cX0_howMany 9 = .ok (.if_icmp .ge 22, 3) := by decide +kernel
theorem dX0_howMany_12 : decode cX0_howMany 12 = .ok (.aload_n 0, 1) := by decide +kernel
theorem dX0_howMany_13 : decode cX0_howMany 13 = .ok (.getfield 9, 3) := by decide +kernel
theorem dX0_howMany_16 : decode cX0_howMany 16 = .ok (.iload_n 2, 1) := by decide +kernel
theorem dX0_howMany_17 : decode cX0_howMany 17 = .ok (.iaload, 1) := by decide +kernel
theorem dX0_howMany_18 : decode cX0_howMany 18 = .ok (.iload_n 2, 1) := by decide +kernel
theorem dX0_howMany_19 : decode cX0_howMany 19 = .ok (.if_icmp .ne 6, 3) := by decide +kernel
theorem dX0_howMany_22 : decode cX0_howMany 22 = .ok (.iinc 1 1, 3) := by decide +kernel
theorem dX0_howMany_25 : decode cX0_howMany 25 = .ok (.iinc 2 1, 3) := by decide +kernel
theorem dX0_howMany_28 : decode cX0_howMany 28 = .ok (.goto (-24), 3) := by decide +kernel
theorem dX0_howMany_31 : decode cX0_howMany 31 = .ok (.iload_n 1, 1) := by decide +kernel
theorem dX0_howMany_32 : decode cX0_howMany 32 = .ok (.ireturn, 1) := by decide +kernel
theorem dX0_sizeOfGroupOf_0 : decode cX0_sizeOfGroupOf 0 = .ok (.iconst 0, 1) := by decide +kernel
theorem dX0_sizeOfGroupOf_1 : decode cX0_sizeOfGroupOf 1 = .ok (.istore_n 2, 1) := by decide +kernel
theorem dX0_sizeOfGroupOf_2 : decode cX0_sizeOfGroupOf 2 = .ok (.iconst 0, 1) := by decide +kernel
theorem dX0_sizeOfGroupOf_3 : decode cX0_sizeOfGroupOf 3 = .ok (.istore_n 3, 1) := by decide +kernel
theorem dX0_sizeOfGroupOf_4 : decode cX0_sizeOfGroupOf 4 = .ok (.iload_n 3, 1) := by decide +kernel
theorem dX0_sizeOfGroupOf_5 : decode cX0_sizeOfGroupOf 5 = .ok (.aload_n 0, 1) := by decide +kernel
theorem dX0_sizeOfGroupOf_6 : decode cX0_sizeOfGroupOf 6 = .ok (.getfield 22, 3) := by decide +kernel
theorem dX0_sizeOfGroupOf_9 : decode cX0_sizeOfGroupOf 9 = .ok (.if_icmp .ge 27, 3) := by decide +kernel
theorem dX0_sizeOfGroupOf_12 : decode cX0_sizeOfGroupOf 12 = .ok (.aload_n 0, 1) := by decide +kernel
theorem dX0_sizeOfGroupOf_13 : decode cX0_sizeOfGroupOf 13 = .ok (.getfield 9, 3) := by decide +kernel
theorem dX0_sizeOfGroupOf_16 : decode cX0_sizeOfGroupOf 16 = .ok (.iload_n 3, 1) := by decide +kernel
theorem dX0_sizeOfGroupOf_17 : decode cX0_sizeOfGroupOf 17 = .ok (.iaload, 1) := by decide +kernel
theorem dX0_sizeOfGroupOf_18 : decode cX0_sizeOfGroupOf 18 = .ok (.aload_n 0, 1) := by decide +kernel
theorem dX0_sizeOfGroupOf_19 : decode cX0_sizeOfGroupOf 19 = .ok (.getfield 9, 3) := by decide +kernel
theorem dX0_sizeOfGroupOf_22 : decode cX0_sizeOfGroupOf 22 = .ok (.iload_n 1, 1) := by decide +kernel
theorem dX0_sizeOfGroupOf_23 : decode cX0_sizeOfGroupOf 23 = .ok (.iaload, 1) := by decide +kernel
theorem dX0_sizeOfGroupOf_24 : decode cX0_sizeOfGroupOf 24 = .ok (.if_icmp .ne 6, 3) := by decide +kernel
theorem dX0_sizeOfGroupOf_27 : decode cX0_sizeOfGroupOf 27 = .ok (.iinc 2 1, 3) := by decide +kernel
theorem dX0_sizeOfGroupOf_30 : decode cX0_sizeOfGroupOf 30 = .ok (.iinc 3 1, 3) := by decide +kernel
theorem dX0_sizeOfGroupOf_33 : decode cX0_sizeOfGroupOf 33 = .ok (.goto (-29), 3) := by decide +kernel
theorem dX0_sizeOfGroupOf_36 : decode cX0_sizeOfGroupOf 36 = .ok (.iload_n 2, 1) := by decide +kernel
theorem dX0_sizeOfGroupOf_37 : decode cX0_sizeOfGroupOf 37 = .ok (.ireturn, 1) := by decide +kernel
set_option maxRecDepth 20000 in
theorem ggX0_runSlot_X2_place : GoodIn wsX0_runSlot wsX2_place := goodIn_r _ [9, 10, 11, 12, 8, 13, 14, 15, 16, 17, 18, 19, 20, 21, 22, 23, 24, 25, 26, 27, 28, 29, 30, 31, 32, 33, 34, 35, 36, 37, 38, 39, 40, 41, 42, 43, 44, 45, 46, 47, 48, 49, 50, 51, 52, 53, 67, 68, 69, 70, 71, 72] (by decide +kernel) (by decide +kernel)
set_option maxRecDepth 20000 in
theorem gX0_runSlot_X2_place : GoodIn wsX0_runSlot (wsV RX0 25 RX2 yX2_place wsX2_place) := goodIn_app (goodIn_of _ (by decide +kernel)) ggX0_runSlot_X2_place
set_option maxRecDepth 20000 in
theorem ggX0_runSlot_X0_settle : GoodIn wsX0_runSlot wsX0_settle := goodIn_r _ [58, 1, 59, 60, 61, 57, 62, 2, 3, 63, 64, 65, 66] (by decide +kernel) (by decide +kernel)
set_option maxRecDepth 20000 in
theorem gX0_runSlot_X0_settle : GoodIn wsX0_runSlot (wsV RX0 31 RX0 yX0_settle wsX0_settle) := goodIn_app (goodIn_of _ (by decide +kernel)) ggX0_runSlot_X0_settle
theorem dX0_runSlot_0 : decode cX0_runSlot 0 = .ok (.iconst 0, 1) := by decide +kernel
theorem dX0_runSlot_1 : decode cX0_runSlot 1 = .ok (.istore_n 2, 1) := by decide +kernel
theorem dX0_runSlot_2 : decode cX0_runSlot 2 = .ok (.iload_n 2, 1) := by decide +kernel
theorem dX0_runSlot_3 : decode cX0_runSlot 3 = .ok (.bipush 10, 2) := by decide +kernel
theorem dX0_runSlot_5 : decode cX0_runSlot 5 = .ok (.if_icmp .ge 16, 3) := by decide +kernel
theorem dX0_runSlot_8 : decode cX0_runSlot 8 = .ok (.aload_n 0, 1) := by decide +kernel
theorem dX0_runSlot_9 : decode cX0_runSlot 9 = .ok (.getfield 15, 3) := by decide +kernel
theorem dX0_runSlot_12 : decode cX0_runSlot 12 = .ok (.iload_n 2, 1) := by decide +kernel
theorem dX0_runSlot_13 : decode cX0_runSlot 13 = .ok (.iconst (-1), 1) := by decide +kernel
theorem dX0_runSlot_14 : decode cX0_runSlot 14 = .ok (.iastore, 1) := by decide +kernel
theorem dX0_runSlot_15 : decode cX0_runSlot 15 = .ok (.iinc 2 1, 3) := by decide +kernel
theorem dX0_runSlot_18 : decode cX0_runSlot 18 = .ok (.goto (-16), 3) := by decide +kernel
theorem dX0_runSlot_21 : decode cX0_runSlot 21 = .ok (.iconst 0, 1) := by decide +kernel
theorem dX0_runSlot_22 : decode cX0_runSlot 22 = .ok (.istore_n 2, 1) := by decide +kernel
theorem dX0_runSlot_23 : decode cX0_runSlot 23 = .ok (.iload_n 2, 1) := by decide +kernel
theorem dX0_runSlot_24 : decode cX0_runSlot 24 = .ok (.aload_n 0, 1) := by decide +kernel
theorem dX0_runSlot_25 : decode cX0_runSlot 25 = .ok (.getfield 22, 3) := by decide +kernel
theorem dX0_runSlot_28 : decode cX0_runSlot 28 = .ok (.if_icmp .ge 33, 3) := by decide +kernel
theorem dX0_runSlot_31 : decode cX0_runSlot 31 = .ok (.aload_n 0, 1) := by decide +kernel
theorem dX0_runSlot_32 : decode cX0_runSlot 32 = .ok (.getfield 9, 3) := by decide +kernel
theorem dX0_runSlot_35 : decode cX0_runSlot 35 = .ok (.iload_n 2, 1) := by decide +kernel
theorem dX0_runSlot_36 : decode cX0_runSlot 36 = .ok (.iaload, 1) := by decide +kernel
theorem dX0_runSlot_37 : decode cX0_runSlot 37 = .ok (.iload_n 2, 1) := by decide +kernel
theorem dX0_runSlot_38 : decode cX0_runSlot 38 = .ok (.if_icmp .ne 17, 3) := by decide +kernel
theorem dX0_runSlot_41 : decode cX0_runSlot 41 = .ok (.aload_n 0, 1) := by decide +kernel
theorem dX0_runSlot_42 : decode cX0_runSlot 42 = .ok (.iload_n 2, 1) := by decide +kernel
theorem dX0_runSlot_43 : decode cX0_runSlot 43 = .ok (.aload_n 1, 1) := by decide +kernel
theorem dX0_runSlot_44 : decode cX0_runSlot 44 = .ok (.iload_n 2, 1) := by decide +kernel
theorem dX0_runSlot_45 : decode cX0_runSlot 45 = .ok (.aload_n 0, 1) := by decide +kernel
theorem dX0_runSlot_46 : decode cX0_runSlot 46 = .ok (.getfield 18, 3) := by decide +kernel
theorem dX0_runSlot_49 : decode cX0_runSlot 49 = .ok (.invokevirtual 25, 3) := by decide +kernel
theorem dX0_runSlot_52 : decode cX0_runSlot 52 = .ok (.invokevirtual 31, 3) := by decide +kernel
theorem dX0_runSlot_55 : decode cX0_runSlot 55 = .ok (.iinc 2 1, 3) := by decide +kernel
theorem dX0_runSlot_58 : decode cX0_runSlot 58 = .ok (.goto (-35), 3) := by decide +kernel
theorem dX0_runSlot_61 : decode cX0_runSlot 61 = .ok (.aload_n 0, 1) := by decide +kernel
theorem dX0_runSlot_62 : decode cX0_runSlot 62 = .ok (.dup, 1) := by decide +kernel
theorem dX0_runSlot_63 : decode cX0_runSlot 63 = .ok (.getfield 18, 3) := by decide +kernel
theorem dX0_runSlot_66 : decode cX0_runSlot 66 = .ok (.iconst 1, 1) := by decide +kernel
theorem dX0_runSlot_67 : decode cX0_runSlot 67 = .ok (.iadd, 1) := by decide +kernel
theorem dX0_runSlot_68 : decode cX0_runSlot 68 = .ok (.putfield 18, 3) := by decide +kernel
theorem dX0_runSlot_71 : decode cX0_runSlot 71 = .ok (.return_, 1) := by decide +kernel
set_option maxRecDepth 20000 in
theorem ggX0_settle_X0_join : GoodIn wsX0_settle wsX0_join := goodIn_r _ [6, 7, 8, 9, 10, 11, 12] (by decide +kernel) (by decide +kernel)
set_option maxRecDepth 20000 in
theorem gX0_settle_X0_join : GoodIn wsX0_settle (wsV RX0 35 RX0 yX0_join wsX0_join) := goodIn_app (goodIn_of _ (by decide +kernel)) ggX0_settle_X0_join
theorem dX0_settle_0 : decode cX0_settle 0 = .ok (.iload_n 2, 1) := by decide +kernel
theorem dX0_settle_1 : decode cX0_settle 1 = .ok (.ifCond .lt 9, 3) := by decide +kernel
theorem dX0_settle_4 : decode cX0_settle 4 = .ok (.iload_n 2, 1) := by decide +kernel
theorem dX0_settle_5 : decode cX0_settle 5 = .ok (.bipush 10, 2) := by decide +kernel
theorem dX0_settle_7 : decode cX0_settle 7 = .ok (.if_icmp .lt 4, 3) := by decide +kernel
theorem dX0_settle_10 : decode cX0_settle 10 = .ok (.return_, 1) := by decide +kernel
theorem dX0_settle_11 : decode cX0_settle 11 = .ok (.aload_n 0, 1) := by decide +kernel
theorem dX0_settle_12 : decode cX0_settle 12 = .ok (.getfield 15, 3) := by decide +kernel
theorem dX0_settle_15 : decode cX0_settle 15 = .ok (.iload_n 2, 1) := by decide +kernel
theorem dX0_settle_16 : decode cX0_settle 16 = .ok (.iaload, 1) := by decide +kernel
theorem dX0_settle_17 : decode cX0_settle 17 = .ok (.iconst (-1), 1) := by decide +kernel
theorem dX0_settle_18 : decode cX0_settle 18 = .ok (.if_icmp .ne 13, 3) := by decide +kernel
theorem dX0_settle_21 : decode cX0_settle 21 = .ok (.aload_n 0, 1) := by decide +kernel
theorem dX0_settle_22 : decode cX0_settle 22 = .ok (.getfield 15, 3) := by decide +kernel
theorem dX0_settle_25 : decode cX0_settle 25 = .ok (.iload_n 2, 1) := by decide +kernel
theorem dX0_settle_26 : decode cX0_settle 26 = .ok (.iload_n 1, 1) := by decide +kernel
theorem dX0_settle_27 : decode cX0_settle 27 = .ok (.iastore, 1) := by decide +kernel
theorem dX0_settle_28 : decode cX0_settle 28 = .ok (.goto 14, 3) := by decide +kernel
theorem dX0_settle_31 : decode cX0_settle 31 = .ok (.aload_n 0, 1) := by decide +kernel
theorem dX0_settle_32 : decode cX0_settle 32 = .ok (.iload_n 1, 1) := by decide +kernel
theorem dX0_settle_33 : decode cX0_settle 33 = .ok (.aload_n 0, 1) := by decide +kernel
theorem dX0_settle_34 : decode cX0_settle 34 = .ok (.getfield 15, 3) := by decide +kernel
theorem dX0_settle_37 : decode cX0_settle 37 = .ok (.iload_n 2, 1) := by decide +kernel
theorem dX0_settle_38 : decode cX0_settle 38 = .ok (.iaload, 1) := by decide +kernel
theorem dX0_settle_39 : decode cX0_settle 39 = .ok (.invokevirtual 35, 3) := by decide +kernel
theorem dX0_settle_42 : decode cX0_settle 42 = .ok (.return_, 1) := by decide +kernel
theorem dX0_join_0 : decode cX0_join 0 = .ok (.iconst 0, 1) := by decide +kernel
theorem dX0_join_1 : decode cX0_join 1 = .ok (.istore_n 3, 1) := by decide +kernel
theorem dX0_join_2 : decode cX0_join 2 = .ok (.iload_n 3, 1) := by decide +kernel
theorem dX0_join_3 : decode cX0_join 3 = .ok (.aload_n 0, 1) := by decide +kernel
theorem dX0_join_4 : decode cX0_join 4 = .ok (.getfield 22, 3) := by decide +kernel
theorem dX0_join_7 : decode cX0_join 7 = .ok (.if_icmp .ge 26, 3) := by decide +kernel
theorem dX0_join_10 : decode cX0_join 10 = .ok (.aload_n 0, 1) := by decide +kernel
theorem dX0_join_11 : decode cX0_join 11 = .ok (.getfield 9, 3) := by decide +kernel
theorem dX0_join_14 : decode cX0_join 14 = .ok (.iload_n 3, 1) := by decide +kernel
theorem dX0_join_15 : decode cX0_join 15 = .ok (.iaload, 1) := by decide +kernel
theorem dX0_join_16 : decode cX0_join 16 = .ok (.iload_n 1, 1) := by decide +kernel
theorem dX0_join_17 : decode cX0_join 17 = .ok (.if_icmp .ne 10, 3) := by decide +kernel
theorem dX0_join_20 : decode cX0_join 20 = .ok (.aload_n 0, 1) := by decide +kernel
theorem dX0_join_21 : decode cX0_join 21 = .ok (.getfield 9, 3) := by decide +kernel
theorem dX0_join_24 : decode cX0_join 24 = .ok (.iload_n 3, 1) := by decide +kernel
theorem dX0_join_25 : decode cX0_join 25 = .ok (.iload_n 2, 1) := by decide +kernel
theorem dX0_join_26 : decode cX0_join 26 = .ok (.iastore, 1) := by decide +kernel
theorem dX0_join_27 : decode cX0_join 27 = .ok (.iinc 3 1, 3) := by decide +kernel
theorem dX0_join_30 : decode cX0_join 30 = .ok (.goto (-28), 3) := by decide +kernel
theorem dX0_join_33 : decode cX0_join 33 = .ok (.return_, 1) := by decide +kernel
set_option maxRecDepth 20000 in
theorem ggX1_init_X2_init : GoodIn wsX1_init wsX2_init := goodIn_r _ [10, 11, 2, 3, 12, 13, 14, 15, 16, 17, 18, 7, 19, 20, 21, 22, 23, 24, 25, 26, 27, 28, 29, 33, 34, 35, 36, 37, 38] (by decide +kernel) (by decide +kernel)
set_option maxRecDepth 20000 in
theorem gX1_init_X2_init : GoodIn wsX1_init (wsX2_init) := ggX1_init_X2_init
theorem dX1_init_0 : decode cX1_init 0 = .ok (.aload_n 0, 1) := by decide +kernel
theorem dX1_init_1 : decode cX1_init 1 = .ok (.invokespecial 3, 3) := by decide +kernel
theorem dX1_init_4 : decode cX1_init 4 = .ok (.aload_n 0, 1) := by decide +kernel
theorem dX1_init_5 : decode cX1_init 5 = .ok (.bipush 12, 2) := by decide +kernel
theorem dX1_init_7 : decode cX1_init 7 = .ok (.anewarray 9, 3) := by decide +kernel
theorem dX1_init_10 : decode cX1_init 10 = .ok (.putfield 11, 3) := by decide +kernel
theorem dX1_init_13 : decode cX1_init 13 = .ok (.iconst 0, 1) := by decide +kernel
theorem dX1_init_14 : decode cX1_init 14 = .ok (.istore_n 1, 1) := by decide +kernel
theorem dX1_init_15 : decode cX1_init 15 = .ok (.iload_n 1, 1) := by decide +kernel
theorem dX1_init_16 : decode cX1_init 16 = .ok (.bipush 12, 2) := by decide +kernel
theorem dX1_init_18 : decode cX1_init 18 = .ok (.if_icmp .ge 22, 3) := by decide +kernel
theorem dX1_init_21 : decode cX1_init 21 = .ok (.aload_n 0, 1) := by decide +kernel
theorem dX1_init_22 : decode cX1_init 22 = .ok (.getfield 11, 3) := by decide +kernel
theorem dX1_init_25 : decode cX1_init 25 = .ok (.iload_n 1, 1) := by decide +kernel
theorem dX1_init_26 : decode cX1_init 26 = .ok (.new 9, 3) := by decide +kernel
theorem dX1_init_29 : decode cX1_init 29 = .ok (.dup, 1) := by decide +kernel
theorem dX1_init_30 : decode cX1_init 30 = .ok (.invokespecial 17, 3) := by decide +kernel
theorem dX1_init_33 : decode cX1_init 33 = .ok (.aastore, 1) := by decide +kernel
theorem dX1_init_34 : decode cX1_init 34 = .ok (.iinc 1 1, 3) := by decide +kernel
theorem dX1_init_37 : decode cX1_init 37 = .ok (.goto (-22), 3) := by decide +kernel
theorem dX1_init_40 : decode cX1_init 40 = .ok (.return_, 1) := by decide +kernel
theorem dX1_forget_0 : decode cX1_forget 0 = .ok (.aload_n 0, 1) := by decide +kernel
theorem dX1_forget_1 : decode cX1_forget 1 = .ok (.iconst 0, 1) := by decide +kernel
theorem dX1_forget_2 : decode cX1_forget 2 = .ok (.putfield 18, 3) := by decide +kernel
theorem dX1_forget_5 : decode cX1_forget 5 = .ok (.aload_n 0, 1) := by decide +kernel
theorem dX1_forget_6 : decode cX1_forget 6 = .ok (.iconst 0, 1) := by decide +kernel
theorem dX1_forget_7 : decode cX1_forget 7 = .ok (.putfield 22, 3) := by decide +kernel
theorem dX1_forget_10 : decode cX1_forget 10 = .ok (.return_, 1) := by decide +kernel
set_option maxRecDepth 20000 in
theorem ggX1_remember_X2_become : GoodIn wsX1_remember wsX2_become := goodIn_r _ [12, 13, 14, 15, 16, 17, 18, 19, 20, 21, 22, 26, 27, 28, 29, 30, 31] (by decide +kernel) (by decide +kernel)
set_option maxRecDepth 20000 in
theorem gX1_remember_X2_become : GoodIn wsX1_remember (wsV RX1 25 RX2 yX2_become wsX2_become) := goodIn_app (goodIn_of _ (by decide +kernel)) ggX1_remember_X2_become
theorem dX1_remember_0 : decode cX1_remember 0 = .ok (.aload_n 0, 1) := by decide +kernel
theorem dX1_remember_1 : decode cX1_remember 1 = .ok (.getfield 11, 3) := by decide +kernel
theorem dX1_remember_4 : decode cX1_remember 4 = .ok (.aload_n 0, 1) := by decide +kernel
theorem dX1_remember_5 : decode cX1_remember 5 = .ok (.getfield 18, 3) := by decide +kernel
theorem dX1_remember_8 : decode cX1_remember 8 = .ok (.aaload, 1) := by decide +kernel
theorem dX1_remember_9 : decode cX1_remember 9 = .ok (.aload_n 1, 1) := by decide +kernel
theorem dX1_remember_10 : decode cX1_remember 10 = .ok (.invokevirtual 25, 3) := by decide +kernel
theorem dX1_remember_13 : decode cX1_remember 13 = .ok (.aload_n 0, 1) := by decide +kernel
theorem dX1_remember_14 : decode cX1_remember 14 = .ok (.aload_n 0, 1) := by decide +kernel
theorem dX1_remember_15 : decode cX1_remember 15 = .ok (.getfield 18, 3) := by decide +kernel
theorem dX1_remember_18 : decode cX1_remember 18 = .ok (.iconst 1, 1) := by decide +kernel
theorem dX1_remember_19 : decode cX1_remember 19 = .ok (.iadd, 1) := by decide +kernel
theorem dX1_remember_20 : decode cX1_remember 20 = .ok (.bipush 12, 2) := by decide +kernel
theorem dX1_remember_22 : decode cX1_remember 22 = .ok (.irem, 1) := by decide +kernel
theorem dX1_remember_23 : decode cX1_remember 23 = .ok (.putfield 18, 3) := by decide +kernel
theorem dX1_remember_26 : decode cX1_remember 26 = .ok (.aload_n 0, 1) := by decide +kernel
theorem dX1_remember_27 : decode cX1_remember 27 = .ok (.aload_n 0, 1) := by decide +kernel
theorem dX1_remember_28 : decode cX1_remember 28 = .ok (.getfield 22, 3) := by decide +kernel
theorem dX1_remember_31 : decode cX1_remember 31 = .ok (.iconst 1, 1) := by decide +kernel
theorem dX1_remember_32 : decode cX1_remember 32 = .ok (.iadd, 1) := by decide +kernel
theorem dX1_remember_33 : decode cX1_remember 33 = .ok (.bipush 12, 2) := by decide +kernel
theorem dX1_remember_35 : decode cX1_remember 35 = .ok (.invokestatic 29, 3) := by decide +kernel
theorem dX1_remember_38 : decode cX1_remember 38 = .ok (.putfield 22, 3) := by decide +kernel
theorem dX1_remember_41 : decode cX1_remember 41 = .ok (.return_, 1) := by decide +kernel
set_option maxRecDepth 20000 in
theorem ggX1_restore_X2_become : GoodIn wsX1_restore wsX2_become := goodIn_r _ [8, 9, 10, 11, 12, 13, 14, 15, 16, 17, 18, 22, 23, 24, 25, 26, 27] (by decide +kernel) (by decide +kernel)
set_option maxRecDepth 20000 in
theorem gX1_restore_X2_become : GoodIn wsX1_restore (wsV RX1 25 RX2 yX2_become wsX2_become) := goodIn_app (goodIn_of _ (by decide +kernel)) ggX1_restore_X2_become
theorem dX1_restore_0 : decode cX1_restore 0 = .ok (.aload_n 0, 1) := by decide +kernel
theorem dX1_restore_1 : decode cX1_restore 1 = .ok (.aload_n 0, 1) := by decide +kernel
theorem dX1_restore_2 : decode cX1_restore 2 = .ok (.getfield 18, 3) := by decide +kernel
theorem dX1_restore_5 : decode cX1_restore 5 = .ok (.bipush 12, 2) := by decide +kernel
theorem dX1_restore_7 : decode cX1_restore 7 = .ok (.iadd, 1) := by decide +kernel
theorem dX1_restore_8 : decode cX1_restore 8 = .ok (.iconst 1, 1) := by decide +kernel
theorem dX1_restore_9 : decode cX1_restore 9 = .ok (.isub, 1) := by decide +kernel
theorem dX1_restore_10 : decode cX1_restore 10 = .ok (.bipush 12, 2) := by decide +kernel
theorem dX1_restore_12 : decode cX1_restore 12 = .ok (.irem, 1) := by decide +kernel
theorem dX1_restore_13 : decode cX1_restore 13 = .ok (.putfield 18, 3) := by decide +kernel
theorem dX1_restore_16 : decode cX1_restore 16 = .ok (.aload_n 1, 1) := by decide +kernel
theorem dX1_restore_17 : decode cX1_restore 17 = .ok (.aload_n 0, 1) := by decide +kernel
theorem dX1_restore_18 : decode cX1_restore 18 = .ok (.getfield 11, 3) := by decide +kernel
theorem dX1_restore_21 : decode cX1_restore 21 = .ok (.aload_n 0, 1) := by decide +kernel
theorem dX1_restore_22 : decode cX1_restore 22 = .ok (.getfield 18, 3) := by decide +kernel
theorem dX1_restore_25 : decode cX1_restore 25 = .ok (.aaload, 1) := by decide +kernel
theorem dX1_restore_26 : decode cX1_restore 26 = .ok (.invokevirtual 25, 3) := by decide +kernel
theorem dX1_restore_29 : decode cX1_restore 29 = .ok (.aload_n 0, 1) := by decide +kernel
theorem dX1_restore_30 : decode cX1_restore 30 = .ok (.dup, 1) := by decide +kernel
theorem dX1_restore_31 : decode cX1_restore 31 = .ok (.getfield 22, 3) := by decide +kernel
theorem dX1_restore_34 : decode cX1_restore 34 = .ok (.iconst 1, 1) := by decide +kernel
theorem dX1_restore_35 : decode cX1_restore 35 = .ok (.isub, 1) := by decide +kernel
theorem dX1_restore_36 : decode cX1_restore 36 = .ok (.putfield 22, 3) := by decide +kernel
theorem dX1_restore_39 : decode cX1_restore 39 = .ok (.return_, 1) := by decide +kernel
set_option maxRecDepth 20000 in
theorem ggX2_init_X2_clear : GoodIn wsX2_init wsX2_clear := goodIn_r _ [12, 13, 14, 15, 16, 17, 18, 11, 19, 20, 21, 22, 23, 24, 25, 26, 27, 28] (by decide +kernel) (by decide +kernel)
set_option maxRecDepth 20000 in
theorem gX2_init_X2_clear : GoodIn wsX2_init (wsV RX2 19 RX2 yX2_clear wsX2_clear) := goodIn_app (goodIn_of _ (by decide +kernel)) ggX2_init_X2_clear
theorem dX2_init_0 : decode cX2_init 0 = .ok (.aload_n 0, 1) := by decide +kernel
theorem dX2_init_1 : decode cX2_init 1 = .ok (.invokespecial 3, 3) := by decide +kernel
theorem dX2_init_4 : decode cX2_init 4 = .ok (.aload_n 0, 1) := by decide +kernel
theorem dX2_init_5 : decode cX2_init 5 = .ok (.iconst 5, 1) := by decide +kernel
theorem dX2_init_6 : decode cX2_init 6 = .ok (.iconst 5, 1) := by decide +kernel
theorem dX2_init_7 : decode cX2_init 7 = .ok (.multianewarray 9 2, 4) := by decide +kernel
theorem dX2_init_11 : decode cX2_init 11 = .ok (.putfield 11, 3) := by decide +kernel
theorem dX2_init_14 : decode cX2_init 14 = .ok (.aload_n 0, 1) := by decide +kernel
theorem dX2_init_15 : decode cX2_init 15 = .ok (.bipush 8, 2) := by decide +kernel
theorem dX2_init_17 : decode cX2_init 17 = .ok (.iconst 4, 1) := by decide +kernel
theorem dX2_init_18 : decode cX2_init 18 = .ok (.multianewarray 9 2, 4) := by decide +kernel
theorem dX2_init_22 : decode cX2_init 22 = .ok (.putfield 16, 3) := by decide +kernel
theorem dX2_init_25 : decode cX2_init 25 = .ok (.aload_n 0, 1) := by decide +kernel
theorem dX2_init_26 : decode cX2_init 26 = .ok (.iconst 4, 1) := by decide +kernel
theorem dX2_init_27 : decode cX2_init 27 = .ok (.invokevirtual 19, 3) := by decide +kernel
theorem dX2_init_30 : decode cX2_init 30 = .ok (.return_, 1) := by decide +kernel
set_option maxRecDepth 20000 in
theorem ggX2_clear_X2_primeAbove : GoodIn wsX2_clear wsX2_primeAbove := goodIn_r _ [8, 9, 10, 7, 11] (by decide +kernel) (by decide +kernel)
set_option maxRecDepth 20000 in
theorem gX2_clear_X2_primeAbove : GoodIn wsX2_clear (va_wsS RX2 27 yX2_primeAbove wsX2_primeAbove) := goodIn_app (goodIn_of _ (by decide +kernel)) ggX2_clear_X2_primeAbove
theorem dX2_clear_0 : decode cX2_clear 0 = .ok (.aload_n 0, 1) := by decide +kernel
theorem dX2_clear_1 : decode cX2_clear 1 = .ok (.iload_n 1, 1) := by decide +kernel
theorem dX2_clear_2 : decode cX2_clear 2 = .ok (.putfield 23, 3) := by decide +kernel
theorem dX2_clear_5 : decode cX2_clear 5 = .ok (.aload_n 0, 1) := by decide +kernel
theorem dX2_clear_6 : decode cX2_clear 6 = .ok (.iload_n 1, 1) := by decide +kernel
theorem dX2_clear_7 : decode cX2_clear 7 = .ok (.invokestatic 27, 3) := by decide +kernel
theorem dX2_clear_10 : decode cX2_clear 10 = .ok (.putfield 31, 3) := by decide +kernel
theorem dX2_clear_13 : decode cX2_clear 13 = .ok (.aload_n 0, 1) := by decide +kernel
theorem dX2_clear_14 : decode cX2_clear 14 = .ok (.iconst 0, 1) := by decide +kernel
theorem dX2_clear_15 : decode cX2_clear 15 = .ok (.putfield 34, 3) := by decide +kernel
theorem dX2_clear_18 : decode cX2_clear 18 = .ok (.aload_n 0, 1) := by decide +kernel
theorem dX2_clear_19 : decode cX2_clear 19 = .ok (.iconst 0, 1) := by decide +kernel
theorem dX2_clear_20 : decode cX2_clear 20 = .ok (.putfield 37, 3) := by decide +kernel
theorem dX2_clear_23 : decode cX2_clear 23 = .ok (.return_, 1) := by decide +kernel
theorem dX2_become_0 : decode cX2_become 0 = .ok (.aload_n 0, 1) := by decide +kernel
theorem dX2_become_1 : decode cX2_become 1 = .ok (.aload_n 1, 1) := by decide +kernel
theorem dX2_become_2 : decode cX2_become 2 = .ok (.getfield 23, 3) := by decide +kernel
theorem dX2_become_5 : decode cX2_become 5 = .ok (.putfield 23, 3) := by decide +kernel
theorem dX2_become_8 : decode cX2_become 8 = .ok (.aload_n 0, 1) := by decide +kernel
theorem dX2_become_9 : decode cX2_become 9 = .ok (.aload_n 1, 1) := by decide +kernel
theorem dX2_become_10 : decode cX2_become 10 = .ok (.getfield 31, 3) := by decide +kernel
theorem dX2_become_13 : decode cX2_become 13 = .ok (.putfield 31, 3) := by decide +kernel
theorem dX2_become_16 : decode cX2_become 16 = .ok (.aload_n 0, 1) := by decide +kernel
theorem dX2_become_17 : decode cX2_become 17 = .ok (.aload_n 1, 1) := by decide +kernel
theorem dX2_become_18 : decode cX2_become 18 = .ok (.getfield 34, 3) := by decide +kernel
theorem dX2_become_21 : decode cX2_become 21 = .ok (.putfield 34, 3) := by decide +kernel
theorem dX2_become_24 : decode cX2_become 24 = .ok (.aload_n 0, 1) := by decide +kernel
theorem dX2_become_25 : decode cX2_become 25 = .ok (.aload_n 1, 1) := by decide +kernel
theorem dX2_become_26 : decode cX2_become 26 = .ok (.getfield 37, 3) := by decide +kernel
theorem dX2_become_29 : decode cX2_become 29 = .ok (.putfield 37, 3) := by decide +kernel
theorem dX2_become_32 : decode cX2_become 32 = .ok (.iconst 0, 1) := by decide +kernel
theorem dX2_become_33 : decode cX2_become 33 = .ok (.istore_n 2, 1) := by decide +kernel
theorem dX2_become_34 : decode cX2_become 34 = .ok (.iload_n 2, 1) := by decide +kernel
theorem dX2_become_35 : decode cX2_become 35 = .ok (.aload_n 0, 1) := by decide +kernel
theorem dX2_become_36 : decode cX2_become 36 = .ok (.getfield 34, 3) := by decide +kernel
theorem dX2_become_39 : decode cX2_become 39 = .ok (.if_icmp .ge 27, 3) := by decide +kernel
theorem dX2_become_42 : decode cX2_become 42 = .ok (.aload_n 1, 1) := by decide +kernel
theorem dX2_become_43 : decode cX2_become 43 = .ok (.getfield 11, 3) := by decide +kernel
theorem dX2_become_46 : decode cX2_become 46 = .ok (.iload_n 2, 1) := by decide +kernel
theorem dX2_become_47 : decode cX2_become 47 = .ok (.aaload, 1) := by decide +kernel
theorem dX2_become_48 : decode cX2_become 48 = .ok (.iconst 0, 1) := by decide +kernel
theorem dX2_become_49 : decode cX2_become 49 = .ok (.aload_n 0, 1) := by decide +kernel
theorem dX2_become_50 : decode cX2_become 50 = .ok (.getfield 11, 3) := by decide +kernel
theorem dX2_become_53 : decode cX2_become 53 = .ok (.iload_n 2, 1) := by decide +kernel
theorem dX2_become_54 : decode cX2_become 54 = .ok (.aaload, 1) := by decide +kernel
theorem dX2_become_55 : decode cX2_become 55 = .ok (.iconst 0, 1) := by decide +kernel
theorem dX2_become_56 : decode cX2_become 56 = .ok (.iconst 5, 1) := by decide +kernel
theorem dX2_become_57 : decode cX2_become 57 = .ok (.invokestatic 40, 3) := by decide +kernel
theorem dX2_become_60 : decode cX2_become 60 = .ok (.iinc 2 1, 3) := by decide +kernel
theorem dX2_become_63 : decode cX2_become 63 = .ok (.goto (-29), 3) := by decide +kernel
theorem dX2_become_66 : decode cX2_become 66 = .ok (.iconst 0, 1) := by decide +kernel
theorem dX2_become_67 : decode cX2_become 67 = .ok (.istore_n 2, 1) := by decide +kernel
theorem dX2_become_68 : decode cX2_become 68 = .ok (.iload_n 2, 1) := by decide +kernel
theorem dX2_become_69 : decode cX2_become 69 = .ok (.aload_n 0, 1) := by decide +kernel
theorem dX2_become_70 : decode cX2_become 70 = .ok (.getfield 37, 3) := by decide +kernel
theorem dX2_become_73 : decode cX2_become 73 = .ok (.if_icmp .ge 27, 3) := by decide +kernel
theorem dX2_become_76 : decode cX2_become 76 = .ok (.aload_n 1, 1) := by decide +kernel
theorem dX2_become_77 : decode cX2_become 77 = .ok (.getfield 16, 3) := by decide +kernel
theorem dX2_become_80 : decode cX2_become 80 = .ok (.iload_n 2, 1) := by decide +kernel
theorem dX2_become_81 : decode cX2_become 81 = .ok (.aaload, 1) := by decide +kernel
theorem dX2_become_82 : decode cX2_become 82 = .ok (.iconst 0, 1) := by decide +kernel
theorem dX2_become_83 : decode cX2_become 83 = .ok (.aload_n 0, 1) := by decide +kernel
theorem dX2_become_84 : decode cX2_become 84 = .ok (.getfield 16, 3) := by decide +kernel
theorem dX2_become_87 : decode cX2_become 87 = .ok (.iload_n 2, 1) := by decide +kernel
theorem dX2_become_88 : decode cX2_become 88 = .ok (.aaload, 1) := by decide +kernel
theorem dX2_become_89 : decode cX2_become 89 = .ok (.iconst 0, 1) := by decide +kernel
theorem dX2_become_90 : decode cX2_become 90 = .ok (.iconst 4, 1) := by decide +kernel
theorem dX2_become_91 : decode cX2_become 91 = .ok (.invokestatic 40, 3) := by decide +kernel
theorem dX2_become_94 : decode cX2_become 94 = .ok (.iinc 2 1, 3) := by decide +kernel
theorem dX2_become_97 : decode cX2_become 97 = .ok (.goto (-29), 3) := by decide +kernel
theorem dX2_become_100 : decode cX2_become 100 = .ok (.return_, 1) := by decide +kernel
set_option maxRecDepth 20000 in
theorem ggX2_addUser_X2_allChannels : GoodIn wsX2_addUser wsX2_allChannels := goodIn_r _ [7, 8, 9, 10, 11, 12, 13, 14] (by decide +kernel) (by decide +kernel)
set_option maxRecDepth 20000 in
theorem gX2_addUser_X2_allChannels : GoodIn wsX2_addUser (wsV RX2 46 RX2 yX2_allChannels wsX2_allChannels) := goodIn_app (goodIn_of _ (by decide +kernel)) ggX2_addUser_X2_allChannels
theorem dX2_addUser_0 : decode cX2_addUser 0 = .ok (.aload_n 0, 1) := by decide +kernel
theorem dX2_addUser_1 : decode cX2_addUser 1 = .ok (.getfield 11, 3) := by decide +kernel
theorem dX2_addUser_4 : decode cX2_addUser 4 = .ok (.aload_n 0, 1) := by decide +kernel
theorem dX2_addUser_5 : decode cX2_addUser 5 = .ok (.getfield 34, 3) := by decide +kernel
theorem dX2_addUser_8 : decode cX2_addUser 8 = .ok (.aaload, 1) := by decide +kernel
theorem dX2_addUser_9 : decode cX2_addUser 9 = .ok (.astore 5, 2) := by decide +kernel
theorem dX2_addUser_11 : decode cX2_addUser 11 = .ok (.aload 5, 2) := by decide +kernel
theorem dX2_addUser_13 : decode cX2_addUser 13 = .ok (.iconst 0, 1) := by decide +kernel
theorem dX2_addUser_14 : decode cX2_addUser 14 = .ok (.iload_n 1, 1) := by decide +kernel
theorem dX2_addUser_15 : decode cX2_addUser 15 = .ok (.iastore, 1) := by decide +kernel
theorem dX2_addUser_16 : decode cX2_addUser 16 = .ok (.aload 5, 2) := by decide +kernel
theorem dX2_addUser_18 : decode cX2_addUser 18 = .ok (.iconst 1, 1) := by decide +kernel
theorem dX2_addUser_19 : decode cX2_addUser 19 = .ok (.iload_n 2, 1) := by decide +kernel
theorem dX2_addUser_20 : decode cX2_addUser 20 = .ok (.iastore, 1) := by decide +kernel
theorem dX2_addUser_21 : decode cX2_addUser 21 = .ok (.aload 5, 2) := by decide +kernel
theorem dX2_addUser_23 : decode cX2_addUser 23 = .ok (.iconst 2, 1) := by decide +kernel
theorem dX2_addUser_24 : decode cX2_addUser 24 = .ok (.iload_n 3, 1) := by decide +kernel
theorem dX2_addUser_25 : decode cX2_addUser 25 = .ok (.iastore, 1) := by decide +kernel
theorem dX2_addUser_26 : decode cX2_addUser 26 = .ok (.aload 5, 2) := by decide +kernel
theorem dX2_addUser_28 : decode cX2_addUser 28 = .ok (.iconst 3, 1) := by decide +kernel
theorem dX2_addUser_29 : decode cX2_addUser 29 = .ok (.iload 4, 2) := by decide +kernel
theorem dX2_addUser_31 : decode cX2_addUser 31 = .ok (.iastore, 1) := by decide +kernel
theorem dX2_addUser_32 : decode cX2_addUser 32 = .ok (.aload 5, 2) := by decide +kernel
theorem dX2_addUser_34 : decode cX2_addUser 34 = .ok (.iconst 4, 1) := by decide +kernel
theorem dX2_addUser_35 : decode cX2_addUser 35 = .ok (.aload_n 0, 1) := by decide +kernel
theorem dX2_addUser_36 : decode cX2_addUser 36 = .ok (.invokevirtual 46, 3) := by decide +kernel
theorem dX2_addUser_39 : decode cX2_addUser 39 = .ok (.iastore, 1) := by decide +kernel
theorem dX2_addUser_40 : decode cX2_addUser 40 = .ok (.aload_n 0, 1) := by decide +kernel
theorem dX2_addUser_41 : decode cX2_addUser 41 = .ok (.dup, 1) := by decide +kernel
theorem dX2_addUser_42 : decode cX2_addUser 42 = .ok (.getfield 34, 3) := by decide +kernel
theorem dX2_addUser_45 : decode cX2_addUser 45 = .ok (.iconst 1, 1) := by decide +kernel
theorem dX2_addUser_46 : decode cX2_addUser 46 = .ok (.iadd, 1) := by decide +kernel
theorem dX2_addUser_47 : decode cX2_addUser 47 = .ok (.putfield 34, 3) := by decide +kernel
theorem dX2_addUser_50 : decode cX2_addUser 50 = .ok (.return_, 1) := by decide +kernel
theorem dX2_addSpell_0 : decode cX2_addSpell 0 = .ok (.aload_n 0, 1) := by decide +kernel
theorem dX2_addSpell_1 : decode cX2_addSpell 1 = .ok (.getfield 16, 3) := by decide +kernel
theorem dX2_addSpell_4 : decode cX2_addSpell 4 = .ok (.aload_n 0, 1) := by decide +kernel
theorem dX2_addSpell_5 : decode cX2_addSpell 5 = .ok (.getfield 37, 3) := by decide +kernel
theorem dX2_addSpell_8 : decode cX2_addSpell 8 = .ok (.aaload, 1) := by decide +kernel
theorem dX2_addSpell_9 : decode cX2_addSpell 9 = .ok (.astore 5, 2) := by decide +kernel
theorem dX2_addSpell_11 : decode cX2_addSpell 11 = .ok (.aload 5, 2) := by decide +kernel
theorem dX2_addSpell_13 : decode cX2_addSpell 13 = .ok (.iconst 0, 1) := by decide +kernel
theorem dX2_addSpell_14 : decode cX2_addSpell 14 = .ok (.iload_n 1, 1) := by decide +kernel
theorem dX2_addSpell_15 : decode cX2_addSpell 15 = .ok (.iastore, 1) := by decide +kernel
theorem dX2_addSpell_16 : decode cX2_addSpell 16 = .ok (.aload 5, 2) := by decide +kernel
theorem dX2_addSpell_18 : decode cX2_addSpell 18 = .ok (.iconst 1, 1) := by decide +kernel
theorem dX2_addSpell_19 : decode cX2_addSpell 19 = .ok (.iload_n 2, 1) := by decide +kernel
theorem dX2_addSpell_20 : decode cX2_addSpell 20 = .ok (.iastore, 1) := by decide +kernel
theorem dX2_addSpell_21 : decode cX2_addSpell 21 = .ok (.aload 5, 2) := by decide +kernel
theorem dX2_addSpell_23 : decode cX2_addSpell 23 = .ok (.iconst 2, 1) := by decide +kernel
theorem dX2_addSpell_24 : decode cX2_addSpell 24 = .ok (.iload_n 3, 1) := by decide +kernel
theorem dX2_addSpell_25 : decode cX2_addSpell 25 = .ok (.iastore, 1) := by decide +kernel
theorem dX2_addSpell_26 : decode cX2_addSpell 26 = .ok (.aload 5, 2) := by decide +kernel
theorem dX2_addSpell_28 : decode cX2_addSpell 28 = .ok (.iconst 3, 1) := by decide +kernel
theorem dX2_addSpell_29 : decode cX2_addSpell 29 = .ok (.iload 4, 2) := by decide +kernel
theorem dX2_addSpell_31 : decode cX2_addSpell 31 = .ok (.iastore, 1) := by decide +kernel
theorem dX2_addSpell_32 : decode cX2_addSpell 32 = .ok (.aload_n 0, 1) := by decide +kernel
theorem dX2_addSpell_33 : decode cX2_addSpell 33 = .ok (.dup, 1) := by decide +kernel
theorem dX2_addSpell_34 : decode cX2_addSpell 34 = .ok (.getfield 37, 3) := by decide +kernel
theorem dX2_addSpell_37 : decode cX2_addSpell 37 = .ok (.iconst 1, 1) := by decide +kernel
theorem dX2_addSpell_38 : decode cX2_addSpell 38 = .ok (.iadd, 1) := by decide +kernel
theorem dX2_addSpell_39 : decode cX2_addSpell 39 = .ok (.putfield 37, 3) := by decide +kernel
theorem dX2_addSpell_42 : decode cX2_addSpell 42 = .ok (.return_, 1) := by decide +kernel
set_option maxRecDepth 20000 in
theorem ggX2_drawLots_X2_allChannels : GoodIn wsX2_drawLots wsX2_allChannels := goodIn_r _ [7, 8, 17, 18, 19, 20, 21, 22] (by decide +kernel) (by decide +kernel)
set_option maxRecDepth 20000 in
theorem gX2_drawLots_X2_allChannels : GoodIn wsX2_drawLots (wsV RX2 46 RX2 yX2_allChannels wsX2_allChannels) := goodIn_app (goodIn_of _ (by decide +kernel)) ggX2_drawLots_X2_allChannels
set_option maxRecDepth 20000 in
theorem ggX2_drawLots_X2_nextLot : GoodIn wsX2_drawLots wsX2_nextLot := goodIn_r _ [11, 12, 13] (by decide +kernel) (by decide +kernel)
set_option maxRecDepth 20000 in
theorem gX2_drawLots_X2_nextLot : GoodIn wsX2_drawLots (va_wsS RX2 50 yX2_nextLot wsX2_nextLot) := goodIn_app (goodIn_of _ (by decide +kernel)) ggX2_drawLots_X2_nextLot
set_option maxRecDepth 20000 in
theorem ggX2_drawLots_X2_remainder : GoodIn wsX2_drawLots wsX2_remainder := goodIn_r _ [16] (by decide +kernel) (by decide +kernel)
set_option maxRecDepth 20000 in
theorem gX2_drawLots_X2_remainder : GoodIn wsX2_drawLots (va_wsS RX2 54 yX2_remainder wsX2_remainder) := goodIn_app (goodIn_of _ (by decide +kernel)) ggX2_drawLots_X2_remainder
theorem dX2_drawLots_0 : decode cX2_drawLots 0 = .ok (.iload_n 1, 1) := by decide +kernel
theorem dX2_drawLots_1 : decode cX2_drawLots 1 = .ok (.i2l, 1) := by decide +kernel
theorem dX2_drawLots_2 : decode cX2_drawLots 2 = .ok (.lstore_n 2, 1) := by decide +kernel
theorem dX2_drawLots_3 : decode cX2_drawLots 3 = .ok (.aload_n 0, 1) := by decide +kernel
theorem dX2_drawLots_4 : decode cX2_drawLots 4 = .ok (.invokevirtual 46, 3) := by decide +kernel
theorem dX2_drawLots_7 : decode cX2_drawLots 7 = .ok (.iconst 1, 1) := by decide +kernel
theorem dX2_drawLots_8 : decode cX2_drawLots 8 = .ok (.iadd, 1) := by decide +kernel
theorem dX2_drawLots_9 : decode cX2_drawLots 9 = .ok (.istore 4, 2) := by decide +kernel
theorem dX2_drawLots_11 : decode cX2_drawLots 11 = .ok (.iconst 0, 1) := by decide +kernel
theorem dX2_drawLots_12 : decode cX2_drawLots 12 = .ok (.istore 5, 2) := by decide +kernel
theorem dX2_drawLots_14 : decode cX2_drawLots 14 = .ok (.iload 5, 2) := by decide +kernel
theorem dX2_drawLots_16 : decode cX2_drawLots 16 = .ok (.aload_n 0, 1) := by decide +kernel
theorem dX2_drawLots_17 : decode cX2_drawLots 17 = .ok (.getfield 34, 3) := by decide +kernel
theorem dX2_drawLots_20 : decode cX2_drawLots 20 = .ok (.if_icmp .ge 82, 3) := by decide +kernel
theorem dX2_drawLots_23 : decode cX2_drawLots 23 = .ok (.aload_n 0, 1) := by decide +kernel
theorem dX2_drawLots_24 : decode cX2_drawLots 24 = .ok (.getfield 11, 3) := by decide +kernel
theorem dX2_drawLots_27 : decode cX2_drawLots 27 = .ok (.iload 5, 2) := by decide +kernel
theorem dX2_drawLots_29 : decode cX2_drawLots 29 = .ok (.aaload, 1) := by decide +kernel
theorem dX2_drawLots_30 : decode cX2_drawLots 30 = .ok (.astore 6, 2) := by decide +kernel
theorem dX2_drawLots_32 : decode cX2_drawLots 32 = .ok (.lload_n 2, 1) := by decide +kernel
theorem dX2_drawLots_33 : decode cX2_drawLots 33 = .ok (.invokestatic 50, 3) := by decide +kernel
theorem dX2_drawLots_36 : decode cX2_drawLots 36 = .ok (.lstore_n 2, 1) := by decide +kernel
theorem dX2_drawLots_37 : decode cX2_drawLots 37 = .ok (.aload 6, 2) := by decide +kernel
theorem dX2_drawLots_39 : decode cX2_drawLots 39 = .ok (.iconst 4, 1) := by decide +kernel
theorem dX2_drawLots_40 : decode cX2_drawLots 40 = .ok (.lload_n 2, 1) := by decide +kernel
theorem dX2_drawLots_41 : decode cX2_drawLots 41 = .ok (.l2i, 1) := by decide +kernel
theorem dX2_drawLots_42 : decode cX2_drawLots 42 = .ok (.iload 4, 2) := by decide +kernel
theorem dX2_drawLots_44 : decode cX2_drawLots 44 = .ok (.invokestatic 54, 3) := by decide +kernel
theorem dX2_drawLots_47 : decode cX2_drawLots 47 = .ok (.iastore, 1) := by decide +kernel
theorem dX2_drawLots_48 : decode cX2_drawLots 48 = .ok (.lload_n 2, 1) := by decide +kernel
theorem dX2_drawLots_49 : decode cX2_drawLots 49 = .ok (.invokestatic 50, 3) := by decide +kernel
theorem dX2_drawLots_52 : decode cX2_drawLots 52 = .ok (.lstore_n 2, 1) := by decide +kernel
theorem dX2_drawLots_53 : decode cX2_drawLots 53 = .ok (.aload 6, 2) := by decide +kernel
theorem dX2_drawLots_55 : decode cX2_drawLots 55 = .ok (.iconst 1, 1) := by decide +kernel
theorem dX2_drawLots_56 : decode cX2_drawLots 56 = .ok (.lload_n 2, 1) := by decide +kernel
theorem dX2_drawLots_57 : decode cX2_drawLots 57 = .ok (.l2i, 1) := by decide +kernel
theorem dX2_drawLots_58 : decode cX2_drawLots 58 = .ok (.bipush 100, 2) := by decide +kernel
theorem dX2_drawLots_60 : decode cX2_drawLots 60 = .ok (.invokestatic 54, 3) := by decide +kernel
theorem dX2_drawLots_63 : decode cX2_drawLots 63 = .ok (.iastore, 1) := by decide +kernel
theorem dX2_drawLots_64 : decode cX2_drawLots 64 = .ok (.lload_n 2, 1) := by decide +kernel
theorem dX2_drawLots_65 : decode cX2_drawLots 65 = .ok (.invokestatic 50, 3) := by decide +kernel
theorem dX2_drawLots_68 : decode cX2_drawLots 68 = .ok (.lstore_n 2, 1) := by decide +kernel
theorem dX2_drawLots_69 : decode cX2_drawLots 69 = .ok (.aload 6, 2) := by decide +kernel
theorem dX2_drawLots_71 : decode cX2_drawLots 71 = .ok (.iconst 2, 1) := by decide +kernel
theorem dX2_drawLots_72 : decode cX2_drawLots 72 = .ok (.lload_n 2, 1) := by decide +kernel
theorem dX2_drawLots_73 : decode cX2_drawLots 73 = .ok (.l2i, 1) := by decide +kernel
theorem dX2_drawLots_74 : decode cX2_drawLots 74 = .ok (.bipush 100, 2) := by decide +kernel
theorem dX2_drawLots_76 : decode cX2_drawLots 76 = .ok (.invokestatic 54, 3) := by decide +kernel
theorem dX2_drawLots_79 : decode cX2_drawLots 79 = .ok (.iastore, 1) := by decide +kernel
theorem dX2_drawLots_80 : decode cX2_drawLots 80 = .ok (.lload_n 2, 1) := by decide +kernel
theorem dX2_drawLots_81 : decode cX2_drawLots 81 = .ok (.invokestatic 50, 3) := by decide +kernel
theorem dX2_drawLots_84 : decode cX2_drawLots 84 = .ok (.lstore_n 2, 1) := by decide +kernel
theorem dX2_drawLots_85 : decode cX2_drawLots 85 = .ok (.aload 6, 2) := by decide +kernel
theorem dX2_drawLots_87 : decode cX2_drawLots 87 = .ok (.iconst 3, 1) := by decide +kernel
theorem dX2_drawLots_88 : decode cX2_drawLots 88 = .ok (.lload_n 2, 1) := by decide +kernel
theorem dX2_drawLots_89 : decode cX2_drawLots 89 = .ok (.l2i, 1) := by decide +kernel
theorem dX2_drawLots_90 : decode cX2_drawLots 90 = .ok (.bipush 50, 2) := by decide +kernel
theorem dX2_drawLots_92 : decode cX2_drawLots 92 = .ok (.invokestatic 54, 3) := by decide +kernel
theorem dX2_drawLots_95 : decode cX2_drawLots 95 = .ok (.iastore, 1) := by decide +kernel
theorem dX2_drawLots_96 : decode cX2_drawLots 96 = .ok (.iinc 5 1, 3) := by decide +kernel
theorem dX2_drawLots_99 : decode cX2_drawLots 99 = .ok (.goto (-85), 3) := by decide +kernel
theorem dX2_drawLots_102 : decode cX2_drawLots 102 = .ok (.return_, 1) := by decide +kernel
theorem dX2_allChannels_0 : decode cX2_allChannels 0 = .ok (.iconst 1, 1) := by decide +kernel
theorem dX2_allChannels_1 : decode cX2_allChannels 1 = .ok (.aload_n 0, 1) := by decide +kernel
theorem dX2_allChannels_2 : decode cX2_allChannels 2 = .ok (.getfield 23, 3) := by decide +kernel
theorem dX2_allChannels_5 : decode cX2_allChannels 5 = .ok (.ishl, 1) := by decide +kernel
theorem dX2_allChannels_6 : decode cX2_allChannels 6 = .ok (.iconst 1, 1) := by decide +kernel
theorem dX2_allChannels_7 : decode cX2_allChannels 7 = .ok (.isub, 1) := by decide +kernel
theorem dX2_allChannels_8 : decode cX2_allChannels 8 = .ok (.ireturn, 1) := by decide +kernel
set_option maxRecDepth 20000 in
theorem ggX2_commonChannels_X2_allChannels : GoodIn wsX2_commonChannels wsX2_allChannels := goodIn_r _ [7, 8, 9, 10, 11, 12, 13, 14] (by decide +kernel) (by decide +kernel)
set_option maxRecDepth 20000 in
theorem gX2_commonChannels_X2_allChannels : GoodIn wsX2_commonChannels (wsV RX2 46 RX2 yX2_allChannels wsX2_allChannels) := goodIn_app (goodIn_of _ (by decide +kernel)) ggX2_commonChannels_X2_allChannels
theorem dX2_commonChannels_0 : decode cX2_commonChannels 0 = .ok (.aload_n 0, 1) := by decide +kernel
theorem dX2_commonChannels_1 : decode cX2_commonChannels 1 = .ok (.invokevirtual 46, 3) := by decide +kernel
theorem dX2_commonChannels_4 : decode cX2_commonChannels 4 = .ok (.istore_n 1, 1) := by decide +kernel
theorem dX2_commonChannels_5 : decode cX2_commonChannels 5 = .ok (.iconst 0, 1) := by decide +kernel
theorem dX2_commonChannels_6 : decode cX2_commonChannels 6 = .ok (.istore_n 2, 1) := by decide +kernel
theorem dX2_commonChannels_7 : decode cX2_commonChannels 7 = .ok (.iload_n 2, 1) := by decide +kernel
theorem dX2_commonChannels_8 : decode cX2_commonChannels 8 = .ok (.aload_n 0, 1) := by decide +kernel
theorem dX2_commonChannels_9 : decode cX2_commonChannels 9 = .ok (.getfield 34, 3) := by decide +kernel
theorem dX2_commonChannels_12 : decode cX2_commonChannels 12 = .ok (.if_icmp .ge 20, 3) := by decide +kernel
theorem dX2_commonChannels_15 : decode cX2_commonChannels 15 = .ok (.iload_n 1, 1) := by decide +kernel
theorem dX2_commonChannels_16 : decode cX2_commonChannels 16 = .ok (.aload_n 0, 1) := by decide +kernel
theorem dX2_commonChannels_17 : decode cX2_commonChannels 17 = .ok (.getfield 11, 3) := by decide +kernel
theorem dX2_commonChannels_20 : decode cX2_commonChannels 20 = .ok (.iload_n 2, 1) := by decide +kernel
theorem dX2_commonChannels_21 : decode cX2_commonChannels 21 = .ok (.aaload, 1) := by decide +kernel
theorem dX2_commonChannels_22 : decode cX2_commonChannels 22 = .ok (.iconst 4, 1) := by decide +kernel
theorem dX2_commonChannels_23 : decode cX2_commonChannels 23 = .ok (.iaload, 1) := by decide +kernel
theorem dX2_commonChannels_24 : decode cX2_commonChannels 24 = .ok (.iand, 1) := by decide +kernel
theorem dX2_commonChannels_25 : decode cX2_commonChannels 25 = .ok (.istore_n 1, 1) := by decide +kernel
theorem dX2_commonChannels_26 : decode cX2_commonChannels 26 = .ok (.iinc 2 1, 3) := by decide +kernel
theorem dX2_commonChannels_29 : decode cX2_commonChannels 29 = .ok (.goto (-22), 3) := by decide +kernel
theorem dX2_commonChannels_32 : decode cX2_commonChannels 32 = .ok (.iload_n 1, 1) := by decide +kernel
theorem dX2_commonChannels_33 : decode cX2_commonChannels 33 = .ok (.ireturn, 1) := by decide +kernel
theorem dX2_clockOf_0 : decode cX2_clockOf 0 = .ok (.iload_n 2, 1) := by decide +kernel
theorem dX2_clockOf_1 : decode cX2_clockOf 1 = .ok (.aload_n 0, 1) := by decide +kernel
theorem dX2_clockOf_2 : decode cX2_clockOf 2 = .ok (.getfield 11, 3) := by decide +kernel
theorem dX2_clockOf_5 : decode cX2_clockOf 5 = .ok (.iload_n 1, 1) := by decide +kernel
theorem dX2_clockOf_6 : decode cX2_clockOf 6 = .ok (.aaload, 1) := by decide +kernel
theorem dX2_clockOf_7 : decode cX2_clockOf 7 = .ok (.iconst 3, 1) := by decide +kernel
theorem dX2_clockOf_8 : decode cX2_clockOf 8 = .ok (.iaload, 1) := by decide +kernel
theorem dX2_clockOf_9 : decode cX2_clockOf 9 = .ok (.isub, 1) := by decide +kernel
theorem dX2_clockOf_10 : decode cX2_clockOf 10 = .ok (.ireturn, 1) := by decide +kernel
set_option maxRecDepth 20000 in
theorem ggX2_aim_X2_remainder : GoodIn wsX2_aim wsX2_remainder := goodIn_r _ [7] (by decide +kernel) (by decide +kernel)
set_option maxRecDepth 20000 in
theorem gX2_aim_X2_remainder : GoodIn wsX2_aim (va_wsS RX2 54 yX2_remainder wsX2_remainder) := goodIn_app (goodIn_of _ (by decide +kernel)) ggX2_aim_X2_remainder
set_option maxRecDepth 20000 in
theorem ggX2_aim_X2_aimOfJumpAndStay : GoodIn wsX2_aim wsX2_aimOfJumpAndStay := goodIn_r _ [11, 3, 2, 12, 13, 6, 14, 4, 5, 7, 15, 16, 17, 18, 19, 20] (by decide +kernel) (by decide +kernel)
set_option maxRecDepth 20000 in
theorem gX2_aim_X2_aimOfJumpAndStay : GoodIn wsX2_aim (wsV RX2 58 RX2 yX2_aimOfJumpAndStay wsX2_aimOfJumpAndStay) := goodIn_app (goodIn_of _ (by decide +kernel)) ggX2_aim_X2_aimOfJumpAndStay
theorem dX2_aim_0 : decode cX2_aim 0 = .ok (.aload_n 0, 1) := by decide +kernel
theorem dX2_aim_1 : decode cX2_aim 1 = .ok (.getfield 11, 3) := by decide +kernel
theorem dX2_aim_4 : decode cX2_aim 4 = .ok (.iload_n 1, 1) := by decide +kernel
theorem dX2_aim_5 : decode cX2_aim 5 = .ok (.aaload, 1) := by decide +kernel
theorem dX2_aim_6 : decode cX2_aim 6 = .ok (.astore_n 3, 1) := by decide +kernel
theorem dX2_aim_7 : decode cX2_aim 7 = .ok (.aload_n 3, 1) := by decide +kernel
theorem dX2_aim_8 : decode cX2_aim 8 = .ok (.iconst 1, 1) := by decide +kernel
theorem dX2_aim_9 : decode cX2_aim 9 = .ok (.iaload, 1) := by decide +kernel
theorem dX2_aim_10 : decode cX2_aim 10 = .ok (.istore 4, 2) := by decide +kernel
theorem dX2_aim_12 : decode cX2_aim 12 = .ok (.iconst 1, 1) := by decide +kernel
theorem dX2_aim_13 : decode cX2_aim 13 = .ok (.aload_n 3, 1) := by decide +kernel
theorem dX2_aim_14 : decode cX2_aim 14 = .ok (.iconst 2, 1) := by decide +kernel
theorem dX2_aim_15 : decode cX2_aim 15 = .ok (.iaload, 1) := by decide +kernel
theorem dX2_aim_16 : decode cX2_aim 16 = .ok (.aload_n 0, 1) := by decide +kernel
theorem dX2_aim_17 : decode cX2_aim 17 = .ok (.getfield 23, 3) := by decide +kernel
theorem dX2_aim_20 : decode cX2_aim 20 = .ok (.invokestatic 54, 3) := by decide +kernel
theorem dX2_aim_23 : decode cX2_aim 23 = .ok (.iadd, 1) := by decide +kernel
theorem dX2_aim_24 : decode cX2_aim 24 = .ok (.istore 5, 2) := by decide +kernel
theorem dX2_aim_26 : decode cX2_aim 26 = .ok (.aload_n 3, 1) := by decide +kernel
theorem dX2_aim_27 : decode cX2_aim 27 = .ok (.iconst 0, 1) := by decide +kernel
theorem dX2_aim_28 : decode cX2_aim 28 = .ok (.iaload, 1) := by decide +kernel
theorem dX2_aim_29 : decode cX2_aim 29 = .ok (.tableswitch 59 0 2 #[27, 37, 49], 27) := by decide +kernel
theorem dX2_aim_56 : decode cX2_aim 56 = .ok (.aload_n 0, 1) := by decide +kernel
theorem dX2_aim_57 : decode cX2_aim 57 = .ok (.iload 4, 2) := by decide +kernel
theorem dX2_aim_59 : decode cX2_aim 59 = .ok (.iload 5, 2) := by decide +kernel
theorem dX2_aim_61 : decode cX2_aim 61 = .ok (.iload_n 2, 1) := by decide +kernel
theorem dX2_aim_62 : decode cX2_aim 62 = .ok (.invokevirtual 58, 3) := by decide +kernel
theorem dX2_aim_65 : decode cX2_aim 65 = .ok (.ireturn, 1) := by decide +kernel
theorem dX2_aim_66 : decode cX2_aim 66 = .ok (.iload 4, 2) := by decide +kernel
theorem dX2_aim_68 : decode cX2_aim 68 = .ok (.iload_n 2, 1) := by decide +kernel
theorem dX2_aim_69 : decode cX2_aim 69 = .ok (.iadd, 1) := by decide +kernel
theorem dX2_aim_70 : decode cX2_aim 70 = .ok (.aload_n 0, 1) := by decide +kernel
theorem dX2_aim_71 : decode cX2_aim 71 = .ok (.getfield 23, 3) := by decide +kernel
theorem dX2_aim_74 : decode cX2_aim 74 = .ok (.invokestatic 54, 3) := by decide +kernel
theorem dX2_aim_77 : decode cX2_aim 77 = .ok (.ireturn, 1) := by decide +kernel
theorem dX2_aim_78 : decode cX2_aim 78 = .ok (.iload 4, 2) := by decide +kernel
theorem dX2_aim_80 : decode cX2_aim 80 = .ok (.aload_n 0, 1) := by decide +kernel
theorem dX2_aim_81 : decode cX2_aim 81 = .ok (.getfield 23, 3) := by decide +kernel
theorem dX2_aim_84 : decode cX2_aim 84 = .ok (.invokestatic 54, 3) := by decide +kernel
theorem dX2_aim_87 : decode cX2_aim 87 = .ok (.ireturn, 1) := by decide +kernel
theorem dX2_aim_88 : decode cX2_aim 88 = .ok (.iload 4, 2) := by decide +kernel
theorem dX2_aim_90 : decode cX2_aim 90 = .ok (.iload_n 2, 1) := by decide +kernel
theorem dX2_aim_91 : decode cX2_aim 91 = .ok (.iload 5, 2) := by decide +kernel
theorem dX2_aim_93 : decode cX2_aim 93 = .ok (.imul, 1) := by decide +kernel
theorem dX2_aim_94 : decode cX2_aim 94 = .ok (.iadd, 1) := by decide +kernel
theorem dX2_aim_95 : decode cX2_aim 95 = .ok (.aload_n 0, 1) := by decide +kernel
theorem dX2_aim_96 : decode cX2_aim 96 = .ok (.getfield 31, 3) := by decide +kernel
theorem dX2_aim_99 : decode cX2_aim 99 = .ok (.invokestatic 54, 3) := by decide +kernel
theorem dX2_aim_102 : decode cX2_aim 102 = .ok (.aload_n 0, 1) := by decide +kernel
theorem dX2_aim_103 : decode cX2_aim 103 = .ok (.getfield 23, 3) := by decide +kernel
theorem dX2_aim_106 : decode cX2_aim 106 = .ok (.invokestatic 54, 3) := by decide +kernel
theorem dX2_aim_109 : decode cX2_aim 109 = .ok (.ireturn, 1) := by decide +kernel
set_option maxRecDepth 20000 in
theorem ggX2_aimOfJumpAndStay_X2_quotient : GoodIn wsX2_aimOfJumpAndStay wsX2_quotient := goodIn_r _ [6] (by decide +kernel) (by decide +kernel)
set_option maxRecDepth 20000 in
theorem gX2_aimOfJumpAndStay_X2_quotient : GoodIn wsX2_aimOfJumpAndStay (va_wsS RX2 62 yX2_quotient wsX2_quotient) := goodIn_app (goodIn_of _ (by decide +kernel)) ggX2_aimOfJumpAndStay_X2_quotient
set_option maxRecDepth 20000 in
theorem ggX2_aimOfJumpAndStay_X2_remainder : GoodIn wsX2_aimOfJumpAndStay wsX2_remainder := goodIn_r _ [9] (by decide +kernel) (by decide +kernel)
set_option maxRecDepth 20000 in
theorem gX2_aimOfJumpAndStay_X2_remainder : GoodIn wsX2_aimOfJumpAndStay (va_wsS RX2 54 yX2_remainder wsX2_remainder) := goodIn_app (goodIn_of _ (by decide +kernel)) ggX2_aimOfJumpAndStay_X2_remainder
theorem dX2_aimOfJumpAndStay_0 : decode cX2_aimOfJumpAndStay 0 = .ok (.iload_n 3, 1) := by decide +kernel
theorem dX2_aimOfJumpAndStay_1 : decode cX2_aimOfJumpAndStay 1 = .ok (.iconst 3, 1) := by decide +kernel
theorem dX2_aimOfJumpAndStay_2 : decode cX2_aimOfJumpAndStay 2 = .ok (.aload_n 0, 1) := by decide +kernel
theorem dX2_aimOfJumpAndStay_3 : decode cX2_aimOfJumpAndStay 3 = .ok (.getfield 31, 3) := by decide +kernel
theorem dX2_aimOfJumpAndStay_6 : decode cX2_aimOfJumpAndStay 6 = .ok (.imul, 1) := by decide +kernel
theorem dX2_aimOfJumpAndStay_7 : decode cX2_aimOfJumpAndStay 7 = .ok (.invokestatic 62, 3) := by decide +kernel
theorem dX2_aimOfJumpAndStay_10 : decode cX2_aimOfJumpAndStay 10 = .ok (.istore 4, 2) := by decide +kernel
theorem dX2_aimOfJumpAndStay_12 : decode cX2_aimOfJumpAndStay 12 = .ok (.iload_n 3, 1) := by decide +kernel
theorem dX2_aimOfJumpAndStay_13 : decode cX2_aimOfJumpAndStay 13 = .ok (.iconst 3, 1) := by decide +kernel
theorem dX2_aimOfJumpAndStay_14 : decode cX2_aimOfJumpAndStay 14 = .ok (.aload_n 0, 1) := by decide +kernel
theorem dX2_aimOfJumpAndStay_15 : decode cX2_aimOfJumpAndStay 15 = .ok (.getfield 31, 3) := by decide +kernel
theorem dX2_aimOfJumpAndStay_18 : decode cX2_aimOfJumpAndStay 18 = .ok (.imul, 1) := by decide +kernel
theorem dX2_aimOfJumpAndStay_19 : decode cX2_aimOfJumpAndStay 19 = .ok (.invokestatic 54, 3) := by decide +kernel
theorem dX2_aimOfJumpAndStay_22 : decode cX2_aimOfJumpAndStay 22 = .ok (.istore 5, 2) := by decide +kernel
theorem dX2_aimOfJumpAndStay_24 : decode cX2_aimOfJumpAndStay 24 = .ok (.iconst 1, 1) := by decide +kernel
theorem dX2_aimOfJumpAndStay_25 : decode cX2_aimOfJumpAndStay 25 = .ok (.iload_n 2, 1) := by decide +kernel
theorem dX2_aimOfJumpAndStay_26 : decode cX2_aimOfJumpAndStay 26 = .ok (.iconst 1, 1) := by decide +kernel
theorem dX2_aimOfJumpAndStay_27 : decode cX2_aimOfJumpAndStay 27 = .ok (.isub, 1) := by decide +kernel
theorem dX2_aimOfJumpAndStay_28 : decode cX2_aimOfJumpAndStay 28 = .ok (.iload 4, 2) := by decide +kernel
theorem dX2_aimOfJumpAndStay_30 : decode cX2_aimOfJumpAndStay 30 = .ok (.aload_n 0, 1) := by decide +kernel
theorem dX2_aimOfJumpAndStay_31 : decode cX2_aimOfJumpAndStay 31 = .ok (.getfield 31, 3) := by decide +kernel
theorem dX2_aimOfJumpAndStay_34 : decode cX2_aimOfJumpAndStay 34 = .ok (.invokestatic 62, 3) := by decide +kernel
theorem dX2_aimOfJumpAndStay_37 : decode cX2_aimOfJumpAndStay 37 = .ok (.iadd, 1) := by decide +kernel
theorem dX2_aimOfJumpAndStay_38 : decode cX2_aimOfJumpAndStay 38 = .ok (.aload_n 0, 1) := by decide +kernel
theorem dX2_aimOfJumpAndStay_39 : decode cX2_aimOfJumpAndStay 39 = .ok (.getfield 23, 3) := by decide +kernel
theorem dX2_aimOfJumpAndStay_42 : decode cX2_aimOfJumpAndStay 42 = .ok (.invokestatic 54, 3) := by decide +kernel
theorem dX2_aimOfJumpAndStay_45 : decode cX2_aimOfJumpAndStay 45 = .ok (.iadd, 1) := by decide +kernel
theorem dX2_aimOfJumpAndStay_46 : decode cX2_aimOfJumpAndStay 46 = .ok (.istore 6, 2) := by decide +kernel
theorem dX2_aimOfJumpAndStay_48 : decode cX2_aimOfJumpAndStay 48 = .ok (.iload 5, 2) := by decide +kernel
theorem dX2_aimOfJumpAndStay_50 : decode cX2_aimOfJumpAndStay 50 = .ok (.iconst 2, 1) := by decide +kernel
theorem dX2_aimOfJumpAndStay_51 : decode cX2_aimOfJumpAndStay 51 = .ok (.aload_n 0, 1) := by decide +kernel
theorem dX2_aimOfJumpAndStay_52 : decode cX2_aimOfJumpAndStay 52 = .ok (.getfield 31, 3) := by decide +kernel
theorem dX2_aimOfJumpAndStay_55 : decode cX2_aimOfJumpAndStay 55 = .ok (.imul, 1) := by decide +kernel
theorem dX2_aimOfJumpAndStay_56 : decode cX2_aimOfJumpAndStay 56 = .ok (.if_icmp .ge 23, 3) := by decide +kernel
theorem dX2_aimOfJumpAndStay_59 : decode cX2_aimOfJumpAndStay 59 = .ok (.iload_n 1, 1) := by decide +kernel
theorem dX2_aimOfJumpAndStay_60 : decode cX2_aimOfJumpAndStay 60 = .ok (.iload 4, 2) := by decide +kernel
theorem dX2_aimOfJumpAndStay_62 : decode cX2_aimOfJumpAndStay 62 = .ok (.iadd, 1) := by decide +kernel
theorem dX2_aimOfJumpAndStay_63 : decode cX2_aimOfJumpAndStay 63 = .ok (.iload 5, 2) := by decide +kernel
theorem dX2_aimOfJumpAndStay_65 : decode cX2_aimOfJumpAndStay 65 = .ok (.iload 6, 2) := by decide +kernel
theorem dX2_aimOfJumpAndStay_67 : decode cX2_aimOfJumpAndStay 67 = .ok (.imul, 1) := by decide +kernel
theorem dX2_aimOfJumpAndStay_68 : decode cX2_aimOfJumpAndStay 68 = .ok (.iadd, 1) := by decide +kernel
theorem dX2_aimOfJumpAndStay_69 : decode cX2_aimOfJumpAndStay 69 = .ok (.aload_n 0, 1) := by decide +kernel
theorem dX2_aimOfJumpAndStay_70 : decode cX2_aimOfJumpAndStay 70 = .ok (.getfield 31, 3) := by decide +kernel
theorem dX2_aimOfJumpAndStay_73 : decode cX2_aimOfJumpAndStay 73 = .ok (.invokestatic 54, 3) := by decide +kernel
theorem dX2_aimOfJumpAndStay_76 : decode cX2_aimOfJumpAndStay 76 = .ok (.goto 5, 3) := by decide +kernel
theorem dX2_aimOfJumpAndStay_79 : decode cX2_aimOfJumpAndStay 79 = .ok (.iload 6, 2) := by decide +kernel
theorem dX2_aimOfJumpAndStay_81 : decode cX2_aimOfJumpAndStay 81 = .ok (.istore 7, 2) := by decide +kernel
theorem dX2_aimOfJumpAndStay_83 : decode cX2_aimOfJumpAndStay 83 = .ok (.iload 7, 2) := by decide +kernel
theorem dX2_aimOfJumpAndStay_85 : decode cX2_aimOfJumpAndStay 85 = .ok (.aload_n 0, 1) := by decide +kernel
theorem dX2_aimOfJumpAndStay_86 : decode cX2_aimOfJumpAndStay 86 = .ok (.getfield 23, 3) := by decide +kernel
theorem dX2_aimOfJumpAndStay_89 : decode cX2_aimOfJumpAndStay 89 = .ok (.invokestatic 54, 3) := by decide +kernel
theorem dX2_aimOfJumpAndStay_92 : decode cX2_aimOfJumpAndStay 92 = .ok (.ireturn, 1) := by decide +kernel
set_option maxRecDepth 20000 in
theorem ggX2_placeByClock_X2_aim : GoodIn wsX2_placeByClock wsX2_aim := goodIn_r _ [6, 1, 7, 8, 9, 10, 5, 11, 12, 13, 14, 15, 16, 17, 18, 32, 33, 34, 35, 36, 37] (by decide +kernel) (by decide +kernel)
set_option maxRecDepth 20000 in
theorem gX2_placeByClock_X2_aim : GoodIn wsX2_placeByClock (wsV RX2 65 RX2 yX2_aim wsX2_aim) := goodIn_app (goodIn_of _ (by decide +kernel)) ggX2_placeByClock_X2_aim
set_option maxRecDepth 20000 in
theorem ggX2_placeByClock_X2_holds : GoodIn wsX2_placeByClock wsX2_holds := goodIn_r _ [21] (by decide +kernel) (by decide +kernel)
set_option maxRecDepth 20000 in
theorem gX2_placeByClock_X2_holds : GoodIn wsX2_placeByClock (va_wsS RX2 68 yX2_holds wsX2_holds) := goodIn_app (goodIn_of _ (by decide +kernel)) ggX2_placeByClock_X2_holds
set_option maxRecDepth 20000 in
theorem ggX2_placeByClock_J6_bitCount_0f7a4 : GoodIn wsX2_placeByClock wsJ6_bitCount_0f7a4 := goodIn_r _ [25, 26, 27, 28] (by decide +kernel) (by decide +kernel)
set_option maxRecDepth 20000 in
theorem gX2_placeByClock_J6_bitCount_0f7a4 : GoodIn wsX2_placeByClock (va_wsS RX2 72 yJ6_bitCount_0f7a4 wsJ6_bitCount_0f7a4) := goodIn_app (goodIn_of _ (by decide +kernel)) ggX2_placeByClock_J6_bitCount_0f7a4
set_option maxRecDepth 20000 in
theorem ggX2_placeByClock_X2_remainder : GoodIn wsX2_placeByClock wsX2_remainder := goodIn_r _ [11] (by decide +kernel) (by decide +kernel)
set_option maxRecDepth 20000 in
theorem gX2_placeByClock_X2_remainder : GoodIn wsX2_placeByClock (va_wsS RX2 54 yX2_remainder wsX2_remainder) := goodIn_app (goodIn_of _ (by decide +kernel)) ggX2_placeByClock_X2_remainder
set_option maxRecDepth 20000 in
theorem ggX2_placeByClock_X2_memberWithNumber : GoodIn wsX2_placeByClock wsX2_memberWithNumber := goodIn_r _ [31, 19, 20, 5, 21] (by decide +kernel) (by decide +kernel)
set_option maxRecDepth 20000 in
theorem gX2_placeByClock_X2_memberWithNumber : GoodIn wsX2_placeByClock (va_wsS RX2 77 yX2_memberWithNumber wsX2_memberWithNumber) := goodIn_app (goodIn_of _ (by decide +kernel)) ggX2_placeByClock_X2_memberWithNumber
theorem dX2_placeByClock_0 : decode cX2_placeByClock 0 = .ok (.aload_n 0, 1) := by decide +kernel
theorem dX2_placeByClock_1 : decode cX2_placeByClock 1 = .ok (.getfield 11, 3) := by decide +kernel
theorem dX2_placeByClock_4 : decode cX2_placeByClock 4 = .ok (.iload_n 1, 1) := by decide +kernel
theorem dX2_placeByClock_5 : decode cX2_placeByClock 5 = .ok (.aaload, 1) := by decide +kernel
theorem dX2_placeByClock_6 : decode cX2_placeByClock 6 = .ok (.iconst 4, 1) := by decide +kernel
theorem dX2_placeByClock_7 : decode cX2_placeByClock 7 = .ok (.iaload, 1) := by decide +kernel
theorem dX2_placeByClock_8 : decode cX2_placeByClock 8 = .ok (.istore_n 3, 1) := by decide +kernel
theorem dX2_placeByClock_9 : decode cX2_placeByClock 9 = .ok (.iload_n 3, 1) := by decide +kernel
theorem dX2_placeByClock_10 : decode cX2_placeByClock 10 = .ok (.ifCond .ne 5, 3) := by decide +kernel
theorem dX2_placeByClock_13 : decode cX2_placeByClock 13 = .ok (.iconst (-1), 1) := by decide +kernel
theorem dX2_placeByClock_14 : decode cX2_placeByClock 14 = .ok (.ireturn, 1) := by decide +kernel
theorem dX2_placeByClock_15 : decode cX2_placeByClock 15 = .ok (.aload_n 0, 1) := by decide +kernel
theorem dX2_placeByClock_16 : decode cX2_placeByClock 16 = .ok (.iload_n 1, 1) := by decide +kernel
theorem dX2_placeByClock_17 : decode cX2_placeByClock 17 = .ok (.iload_n 2, 1) := by decide +kernel
theorem dX2_placeByClock_18 : decode cX2_placeByClock 18 = .ok (.invokevirtual 65, 3) := by decide +kernel
theorem dX2_placeByClock_21 : decode cX2_placeByClock 21 = .ok (.istore 4, 2) := by decide +kernel
theorem dX2_placeByClock_23 : decode cX2_placeByClock 23 = .ok (.iload_n 3, 1) := by decide +kernel
theorem dX2_placeByClock_24 : decode cX2_placeByClock 24 = .ok (.iload 4, 2) := by decide +kernel
theorem dX2_placeByClock_26 : decode cX2_placeByClock 26 = .ok (.invokestatic 68, 3) := by decide +kernel
theorem dX2_placeByClock_29 : decode cX2_placeByClock 29 = .ok (.ifCond .eq 8, 3) := by decide +kernel
theorem dX2_placeByClock_32 : decode cX2_placeByClock 32 = .ok (.iload 4, 2) := by decide +kernel
theorem dX2_placeByClock_34 : decode cX2_placeByClock 34 = .ok (.goto 16, 3) := by decide +kernel
theorem dX2_placeByClock_37 : decode cX2_placeByClock 37 = .ok (.iload_n 3, 1) := by decide +kernel
theorem dX2_placeByClock_38 : decode cX2_placeByClock 38 = .ok (.iload 4, 2) := by decide +kernel
theorem dX2_placeByClock_40 : decode cX2_placeByClock 40 = .ok (.iload_n 3, 1) := by decide +kernel
theorem dX2_placeByClock_41 : decode cX2_placeByClock 41 = .ok (.invokestatic 72, 3) := by decide +kernel
theorem dX2_placeByClock_44 : decode cX2_placeByClock 44 = .ok (.invokestatic 54, 3) := by decide +kernel
theorem dX2_placeByClock_47 : decode cX2_placeByClock 47 = .ok (.invokestatic 77, 3) := by decide +kernel
theorem dX2_placeByClock_50 : decode cX2_placeByClock 50 = .ok (.ireturn, 1) := by decide +kernel
set_option maxRecDepth 20000 in
theorem ggX2_place_X2_clockOf : GoodIn wsX2_place wsX2_clockOf := goodIn_r _ [5, 6, 46, 47, 48, 49, 50, 51] (by decide +kernel) (by decide +kernel)
set_option maxRecDepth 20000 in
theorem gX2_place_X2_clockOf : GoodIn wsX2_place (wsV RX2 80 RX2 yX2_clockOf wsX2_clockOf) := goodIn_app (goodIn_of _ (by decide +kernel)) ggX2_place_X2_clockOf
set_option maxRecDepth 20000 in
theorem ggX2_place_X2_placeByClock : GoodIn wsX2_place wsX2_placeByClock := goodIn_r _ [10, 6, 11, 12, 13, 4, 14, 15, 16, 17, 18, 19, 20, 21, 22, 23, 24, 25, 26, 27, 28, 29, 30, 31, 32, 33, 34, 35, 36, 37, 38, 39, 46, 47, 48, 49, 50, 51] (by decide +kernel) (by decide +kernel)
set_option maxRecDepth 20000 in
theorem gX2_place_X2_placeByClock : GoodIn wsX2_place (wsV RX2 83 RX2 yX2_placeByClock wsX2_placeByClock) := goodIn_app (goodIn_of _ (by decide +kernel)) ggX2_place_X2_placeByClock
set_option maxRecDepth 20000 in
theorem ggX2_place_X2_isShut : GoodIn wsX2_place wsX2_isShut := goodIn_r _ [43, 44, 45, 46, 47, 48, 49, 50, 51] (by decide +kernel) (by decide +kernel)
set_option maxRecDepth 20000 in
theorem gX2_place_X2_isShut : GoodIn wsX2_place (wsV RX2 86 RX2 yX2_isShut wsX2_isShut) := goodIn_app (goodIn_of _ (by decide +kernel)) ggX2_place_X2_isShut
theorem dX2_place_0 : decode cX2_place 0 = .ok (.aload_n 0, 1) := by decide +kernel
theorem dX2_place_1 : decode cX2_place 1 = .ok (.iload_n 1, 1) := by decide +kernel
theorem dX2_place_2 : decode cX2_place 2 = .ok (.iload_n 2, 1) := by decide +kernel
theorem dX2_place_3 : decode cX2_place 3 = .ok (.invokevirtual 80, 3) := by decide +kernel
theorem dX2_place_6 : decode cX2_place 6 = .ok (.istore_n 3, 1) := by decide +kernel
theorem dX2_place_7 : decode cX2_place 7 = .ok (.iload_n 3, 1) := by decide +kernel
theorem dX2_place_8 : decode cX2_place 8 = .ok (.ifCond .ge 5, 3) := by decide +kernel
theorem dX2_place_11 : decode cX2_place 11 = .ok (.iconst (-1), 1) := by decide +kernel
theorem dX2_place_12 : decode cX2_place 12 = .ok (.ireturn, 1) := by decide +kernel
theorem dX2_place_13 : decode cX2_place 13 = .ok (.aload_n 0, 1) := by decide +kernel
theorem dX2_place_14 : decode cX2_place 14 = .ok (.iload_n 1, 1) := by decide +kernel
theorem dX2_place_15 : decode cX2_place 15 = .ok (.iload_n 3, 1) := by decide +kernel
theorem dX2_place_16 : decode cX2_place 16 = .ok (.invokevirtual 83, 3) := by decide +kernel
theorem dX2_place_19 : decode cX2_place 19 = .ok (.istore 4, 2) := by decide +kernel
theorem dX2_place_21 : decode cX2_place 21 = .ok (.aload_n 0, 1) := by decide +kernel
theorem dX2_place_22 : decode cX2_place 22 = .ok (.iload_n 1, 1) := by decide +kernel
theorem dX2_place_23 : decode cX2_place 23 = .ok (.iload 4, 2) := by decide +kernel
theorem dX2_place_25 : decode cX2_place 25 = .ok (.iload_n 2, 1) := by decide +kernel
theorem dX2_place_26 : decode cX2_place 26 = .ok (.invokevirtual 86, 3) := by decide +kernel
theorem dX2_place_29 : decode cX2_place 29 = .ok (.ifCond .eq 7, 3) := by decide +kernel
theorem dX2_place_32 : decode cX2_place 32 = .ok (.iconst (-1), 1) := by decide +kernel
theorem dX2_place_33 : decode cX2_place 33 = .ok (.goto 5, 3) := by decide +kernel
theorem dX2_place_36 : decode cX2_place 36 = .ok (.iload 4, 2) := by decide +kernel
theorem dX2_place_38 : decode cX2_place 38 = .ok (.ireturn, 1) := by decide +kernel
set_option maxRecDepth 20000 in
theorem ggX2_whyNowhere_X2_clockOf : GoodIn wsX2_whyNowhere wsX2_clockOf := goodIn_r _ [5, 6, 46, 47, 48, 49, 50, 51] (by decide +kernel) (by decide +kernel)
set_option maxRecDepth 20000 in
theorem gX2_whyNowhere_X2_clockOf : GoodIn wsX2_whyNowhere (wsV RX2 80 RX2 yX2_clockOf wsX2_clockOf) := goodIn_app (goodIn_of _ (by decide +kernel)) ggX2_whyNowhere_X2_clockOf
set_option maxRecDepth 20000 in
theorem ggX2_whyNowhere_X2_placeByClock : GoodIn wsX2_whyNowhere wsX2_placeByClock := goodIn_r _ [10, 6, 11, 12, 13, 4, 14, 15, 16, 17, 18, 19, 20, 21, 22, 23, 24, 25, 26, 27, 28, 29, 30, 31, 32, 33, 34, 35, 36, 37, 38, 39, 46, 47, 48, 49, 50, 51] (by decide +kernel) (by decide +kernel)
set_option maxRecDepth 20000 in
theorem gX2_whyNowhere_X2_placeByClock : GoodIn wsX2_whyNowhere (wsV RX2 83 RX2 yX2_placeByClock wsX2_placeByClock) := goodIn_app (goodIn_of _ (by decide +kernel)) ggX2_whyNowhere_X2_placeByClock
set_option maxRecDepth 20000 in
theorem ggX2_whyNowhere_X2_isShut : GoodIn wsX2_whyNowhere wsX2_isShut := goodIn_r _ [43, 44, 45, 46, 47, 48, 49, 50, 51] (by decide +kernel) (by decide +kernel)
set_option maxRecDepth 20000 in
theorem gX2_whyNowhere_X2_isShut : GoodIn wsX2_whyNowhere (wsV RX2 86 RX2 yX2_isShut wsX2_isShut) := goodIn_app (goodIn_of _ (by decide +kernel)) ggX2_whyNowhere_X2_isShut
theorem dX2_whyNowhere_0 : decode cX2_whyNowhere 0 = .ok (.aload_n 0, 1) := by decide +kernel
theorem dX2_whyNowhere_1 : decode cX2_whyNowhere 1 = .ok (.iload_n 1, 1) := by decide +kernel
theorem dX2_whyNowhere_2 : decode cX2_whyNowhere 2 = .ok (.iload_n 2, 1) := by decide +kernel
theorem dX2_whyNowhere_3 : decode cX2_whyNowhere 3 = .ok (.invokevirtual 80, 3) := by decide +kernel
theorem dX2_whyNowhere_6 : decode cX2_whyNowhere 6 = .ok (.istore_n 3, 1) := by decide +kernel
theorem dX2_whyNowhere_7 : decode cX2_whyNowhere 7 = .ok (.iload_n 3, 1) := by decide +kernel
theorem dX2_whyNowhere_8 : decode cX2_whyNowhere 8 = .ok (.ifCond .ge 5, 3) := by decide +kernel
theorem dX2_whyNowhere_11 : decode cX2_whyNowhere 11 = .ok (.iconst 1, 1) := by decide +kernel
theorem dX2_whyNowhere_12 : decode cX2_whyNowhere 12 = .ok (.ireturn, 1) := by decide +kernel
theorem dX2_whyNowhere_13 : decode cX2_whyNowhere 13 = .ok (.aload_n 0, 1) := by decide +kernel
theorem dX2_whyNowhere_14 : decode cX2_whyNowhere 14 = .ok (.iload_n 1, 1) := by decide +kernel
theorem dX2_whyNowhere_15 : decode cX2_whyNowhere 15 = .ok (.iload_n 3, 1) := by decide +kernel
theorem dX2_whyNowhere_16 : decode cX2_whyNowhere 16 = .ok (.invokevirtual 83, 3) := by decide +kernel
theorem dX2_whyNowhere_19 : decode cX2_whyNowhere 19 = .ok (.istore 4, 2) := by decide +kernel
theorem dX2_whyNowhere_21 : decode cX2_whyNowhere 21 = .ok (.iload 4, 2) := by decide +kernel
theorem dX2_whyNowhere_23 : decode cX2_whyNowhere 23 = .ok (.iconst (-1), 1) := by decide +kernel
theorem dX2_whyNowhere_24 : decode cX2_whyNowhere 24 = .ok (.if_icmp .ne 5, 3) := by decide +kernel
theorem dX2_whyNowhere_27 : decode cX2_whyNowhere 27 = .ok (.iconst 2, 1) := by decide +kernel
theorem dX2_whyNowhere_28 : decode cX2_whyNowhere 28 = .ok (.ireturn, 1) := by decide +kernel
theorem dX2_whyNowhere_29 : decode cX2_whyNowhere 29 = .ok (.aload_n 0, 1) := by decide +kernel
theorem dX2_whyNowhere_30 : decode cX2_whyNowhere 30 = .ok (.iload_n 1, 1) := by decide +kernel
theorem dX2_whyNowhere_31 : decode cX2_whyNowhere 31 = .ok (.iload 4, 2) := by decide +kernel
theorem dX2_whyNowhere_33 : decode cX2_whyNowhere 33 = .ok (.iload_n 2, 1) := by decide +kernel
theorem dX2_whyNowhere_34 : decode cX2_whyNowhere 34 = .ok (.invokevirtual 86, 3) := by decide +kernel
theorem dX2_whyNowhere_37 : decode cX2_whyNowhere 37 = .ok (.ifCond .eq 7, 3) := by decide +kernel
theorem dX2_whyNowhere_40 : decode cX2_whyNowhere 40 = .ok (.iconst 3, 1) := by decide +kernel
theorem dX2_whyNowhere_41 : decode cX2_whyNowhere 41 = .ok (.goto 4, 3) := by decide +kernel
theorem dX2_whyNowhere_44 : decode cX2_whyNowhere 44 = .ok (.iconst 0, 1) := by decide +kernel
theorem dX2_whyNowhere_45 : decode cX2_whyNowhere 45 = .ok (.ireturn, 1) := by decide +kernel
set_option maxRecDepth 20000 in
theorem ggX2_meet_X2_place : GoodIn wsX2_meet wsX2_place := goodIn_r _ [5, 6, 7, 8, 4, 9, 10, 11, 12, 13, 14, 15, 16, 17, 18, 19, 20, 21, 22, 23, 24, 25, 26, 27, 28, 29, 30, 31, 32, 33, 34, 35, 36, 37, 38, 39, 40, 41, 42, 43, 44, 45, 46, 47, 48, 49, 50, 51, 52, 53, 54, 55] (by decide +kernel) (by decide +kernel)
set_option maxRecDepth 20000 in
theorem gX2_meet_X2_place : GoodIn wsX2_meet (wsV RX2 90 RX2 yX2_place wsX2_place) := goodIn_app (goodIn_of _ (by decide +kernel)) ggX2_meet_X2_place
theorem dX2_meet_0 : decode cX2_meet 0 = .ok (.aload_n 0, 1) := by decide +kernel
theorem dX2_meet_1 : decode cX2_meet 1 = .ok (.iload_n 1, 1) := by decide +kernel
theorem dX2_meet_2 : decode cX2_meet 2 = .ok (.iload_n 3, 1) := by decide +kernel
theorem dX2_meet_3 : decode cX2_meet 3 = .ok (.invokevirtual 90, 3) := by decide +kernel
theorem dX2_meet_6 : decode cX2_meet 6 = .ok (.istore 4, 2) := by decide +kernel
theorem dX2_meet_8 : decode cX2_meet 8 = .ok (.iload 4, 2) := by decide +kernel
theorem dX2_meet_10 : decode cX2_meet 10 = .ok (.iconst (-1), 1) := by decide +kernel
theorem dX2_meet_11 : decode cX2_meet 11 = .ok (.if_icmp .eq 18, 3) := by decide +kernel
theorem dX2_meet_14 : decode cX2_meet 14 = .ok (.iload 4, 2) := by decide +kernel
theorem dX2_meet_16 : decode cX2_meet 16 = .ok (.aload_n 0, 1) := by decide +kernel
theorem dX2_meet_17 : decode cX2_meet 17 = .ok (.iload_n 2, 1) := by decide +kernel
theorem dX2_meet_18 : decode cX2_meet 18 = .ok (.iload_n 3, 1) := by decide +kernel
theorem dX2_meet_19 : decode cX2_meet 19 = .ok (.invokevirtual 90, 3) := by decide +kernel
theorem dX2_meet_22 : decode cX2_meet 22 = .ok (.if_icmp .ne 7, 3) := by decide +kernel
theorem dX2_meet_25 : decode cX2_meet 25 = .ok (.iconst 1, 1) := by decide +kernel
theorem dX2_meet_26 : decode cX2_meet 26 = .ok (.goto 4, 3) := by decide +kernel
theorem dX2_meet_29 : decode cX2_meet 29 = .ok (.iconst 0, 1) := by decide +kernel
theorem dX2_meet_30 : decode cX2_meet 30 = .ok (.ireturn, 1) := by decide +kernel
theorem dX2_isShut_0 : decode cX2_isShut 0 = .ok (.iconst 0, 1) := by decide +kernel
theorem dX2_isShut_1 : decode cX2_isShut 1 = .ok (.istore 4, 2) := by decide +kernel
theorem dX2_isShut_3 : decode cX2_isShut 3 = .ok (.iload 4, 2) := by decide +kernel
theorem dX2_isShut_5 : decode cX2_isShut 5 = .ok (.aload_n 0, 1) := by decide +kernel
theorem dX2_isShut_6 : decode cX2_isShut 6 = .ok (.getfield 37, 3) := by decide +kernel
theorem dX2_isShut_9 : decode cX2_isShut 9 = .ok (.if_icmp .ge 78, 3) := by decide +kernel
theorem dX2_isShut_12 : decode cX2_isShut 12 = .ok (.aload_n 0, 1) := by decide +kernel
theorem dX2_isShut_13 : decode cX2_isShut 13 = .ok (.getfield 16, 3) := by decide +kernel
theorem dX2_isShut_16 : decode cX2_isShut 16 = .ok (.iload 4, 2) := by decide +kernel
theorem dX2_isShut_18 : decode cX2_isShut 18 = .ok (.aaload, 1) := by decide +kernel
theorem dX2_isShut_19 : decode cX2_isShut 19 = .ok (.astore 5, 2) := by decide +kernel
theorem dX2_isShut_21 : decode cX2_isShut 21 = .ok (.aload 5, 2) := by decide +kernel
theorem dX2_isShut_23 : decode cX2_isShut 23 = .ok (.iconst 1, 1) := by decide +kernel
theorem dX2_isShut_24 : decode cX2_isShut 24 = .ok (.iaload, 1) := by decide +kernel
theorem dX2_isShut_25 : decode cX2_isShut 25 = .ok (.iload_n 2, 1) := by decide +kernel
theorem dX2_isShut_26 : decode cX2_isShut 26 = .ok (.if_icmp .ne 23, 3) := by decide +kernel
theorem dX2_isShut_29 : decode cX2_isShut 29 = .ok (.aload 5, 2) := by decide +kernel
theorem dX2_isShut_31 : decode cX2_isShut 31 = .ok (.iconst 0, 1) := by decide +kernel
theorem dX2_isShut_32 : decode cX2_isShut 32 = .ok (.iaload, 1) := by decide +kernel
theorem dX2_isShut_33 : decode cX2_isShut 33 = .ok (.iconst (-1), 1) := by decide +kernel
theorem dX2_isShut_34 : decode cX2_isShut 34 = .ok (.if_icmp .eq 11, 3) := by decide +kernel
theorem dX2_isShut_37 : decode cX2_isShut 37 = .ok (.aload 5, 2) := by decide +kernel
theorem dX2_isShut_39 : decode cX2_isShut 39 = .ok (.iconst 0, 1) := by decide +kernel
theorem dX2_isShut_40 : decode cX2_isShut 40 = .ok (.iaload, 1) := by decide +kernel
theorem dX2_isShut_41 : decode cX2_isShut 41 = .ok (.iload_n 1, 1) := by decide +kernel
theorem dX2_isShut_42 : decode cX2_isShut 42 = .ok (.if_icmp .ne 7, 3) := by decide +kernel
theorem dX2_isShut_45 : decode cX2_isShut 45 = .ok (.iconst 1, 1) := by decide +kernel
theorem dX2_isShut_46 : decode cX2_isShut 46 = .ok (.goto 4, 3) := by decide +kernel
theorem dX2_isShut_49 : decode cX2_isShut 49 = .ok (.iconst 0, 1) := by decide +kernel
theorem dX2_isShut_50 : decode cX2_isShut 50 = .ok (.istore 6, 2) := by decide +kernel
theorem dX2_isShut_52 : decode cX2_isShut 52 = .ok (.iload_n 3, 1) := by decide +kernel
theorem dX2_isShut_53 : decode cX2_isShut 53 = .ok (.aload 5, 2) := by decide +kernel
theorem dX2_isShut_55 : decode cX2_isShut 55 = .ok (.iconst 2, 1) := by decide +kernel
theorem dX2_isShut_56 : decode cX2_isShut 56 = .ok (.iaload, 1) := by decide +kernel
theorem dX2_isShut_57 : decode cX2_isShut 57 = .ok (.isub, 1) := by decide +kernel
theorem dX2_isShut_58 : decode cX2_isShut 58 = .ok (.istore 7, 2) := by decide +kernel
theorem dX2_isShut_60 : decode cX2_isShut 60 = .ok (.iload 6, 2) := by decide +kernel
theorem dX2_isShut_62 : decode cX2_isShut 62 = .ok (.ifCond .eq 19, 3) := by decide +kernel
theorem dX2_isShut_65 : decode cX2_isShut 65 = .ok (.iload 7, 2) := by decide +kernel
theorem dX2_isShut_67 : decode cX2_isShut 67 = .ok (.ifCond .lt 14, 3) := by decide +kernel
theorem dX2_isShut_70 : decode cX2_isShut 70 = .ok (.iload 7, 2) := by decide +kernel
theorem dX2_isShut_72 : decode cX2_isShut 72 = .ok (.aload 5, 2) := by decide +kernel
theorem dX2_isShut_74 : decode cX2_isShut 74 = .ok (.iconst 3, 1) := by decide +kernel
theorem dX2_isShut_75 : decode cX2_isShut 75 = .ok (.iaload, 1) := by decide +kernel
theorem dX2_isShut_76 : decode cX2_isShut 76 = .ok (.if_icmp .ge 5, 3) := by decide +kernel
theorem dX2_isShut_79 : decode cX2_isShut 79 = .ok (.iconst 1, 1) := by decide +kernel
theorem dX2_isShut_80 : decode cX2_isShut 80 = .ok (.ireturn, 1) := by decide +kernel
theorem dX2_isShut_81 : decode cX2_isShut 81 = .ok (.iinc 4 1, 3) := by decide +kernel
theorem dX2_isShut_84 : decode cX2_isShut 84 = .ok (.goto (-81), 3) := by decide +kernel
theorem dX2_isShut_87 : decode cX2_isShut 87 = .ok (.iconst 0, 1) := by decide +kernel
theorem dX2_isShut_88 : decode cX2_isShut 88 = .ok (.ireturn, 1) := by decide +kernel
theorem dX2_holds_0 : decode cX2_holds 0 = .ok (.iload_n 0, 1) := by decide +kernel
theorem dX2_holds_1 : decode cX2_holds 1 = .ok (.iload_n 1, 1) := by decide +kernel
theorem dX2_holds_2 : decode cX2_holds 2 = .ok (.ishr, 1) := by decide +kernel
theorem dX2_holds_3 : decode cX2_holds 3 = .ok (.iconst 1, 1) := by decide +kernel
theorem dX2_holds_4 : decode cX2_holds 4 = .ok (.iand, 1) := by decide +kernel
theorem dX2_holds_5 : decode cX2_holds 5 = .ok (.iconst 1, 1) := by decide +kernel
theorem dX2_holds_6 : decode cX2_holds 6 = .ok (.if_icmp .ne 7, 3) := by decide +kernel
theorem dX2_holds_9 : decode cX2_holds 9 = .ok (.iconst 1, 1) := by decide +kernel
theorem dX2_holds_10 : decode cX2_holds 10 = .ok (.goto 4, 3) := by decide +kernel
theorem dX2_holds_13 : decode cX2_holds 13 = .ok (.iconst 0, 1) := by decide +kernel
theorem dX2_holds_14 : decode cX2_holds 14 = .ok (.ireturn, 1) := by decide +kernel
theorem dX2_quotient_0 : decode cX2_quotient 0 = .ok (.iload_n 1, 1) := by decide +kernel
theorem dX2_quotient_1 : decode cX2_quotient 1 = .ok (.ifCond .le 9, 3) := by decide +kernel
theorem dX2_quotient_4 : decode cX2_quotient 4 = .ok (.iload_n 0, 1) := by decide +kernel
theorem dX2_quotient_5 : decode cX2_quotient 5 = .ok (.iload_n 1, 1) := by decide +kernel
theorem dX2_quotient_6 : decode cX2_quotient 6 = .ok (.idiv, 1) := by decide +kernel
theorem dX2_quotient_7 : decode cX2_quotient 7 = .ok (.goto 4, 3) := by decide +kernel
theorem dX2_quotient_10 : decode cX2_quotient 10 = .ok (.iconst 0, 1) := by decide +kernel
theorem dX2_quotient_11 : decode cX2_quotient 11 = .ok (.ireturn, 1) := by decide +kernel
theorem dX2_remainder_0 : decode cX2_remainder 0 = .ok (.iload_n 1, 1) := by decide +kernel
theorem dX2_remainder_1 : decode cX2_remainder 1 = .ok (.ifCond .le 9, 3) := by decide +kernel
theorem dX2_remainder_4 : decode cX2_remainder 4 = .ok (.iload_n 0, 1) := by decide +kernel
theorem dX2_remainder_5 : decode cX2_remainder 5 = .ok (.iload_n 1, 1) := by decide +kernel
theorem dX2_remainder_6 : decode cX2_remainder 6 = .ok (.irem, 1) := by decide +kernel
theorem dX2_remainder_7 : decode cX2_remainder 7 = .ok (.goto 4, 3) := by decide +kernel
theorem dX2_remainder_10 : decode cX2_remainder 10 = .ok (.iconst 0, 1) := by decide +kernel
theorem dX2_remainder_11 : decode cX2_remainder 11 = .ok (.ireturn, 1) := by decide +kernel
set_option maxRecDepth 20000 in
theorem ggX2_memberWithNumber_X2_holds : GoodIn wsX2_memberWithNumber wsX2_holds := goodIn_r _ [4] (by decide +kernel) (by decide +kernel)
set_option maxRecDepth 20000 in
theorem gX2_memberWithNumber_X2_holds : GoodIn wsX2_memberWithNumber (va_wsS RX2 68 yX2_holds wsX2_holds) := goodIn_app (goodIn_of _ (by decide +kernel)) ggX2_memberWithNumber_X2_holds
theorem dX2_memberWithNumber_0 : decode cX2_memberWithNumber 0 = .ok (.iload_n 1, 1) := by decide +kernel
theorem dX2_memberWithNumber_1 : decode cX2_memberWithNumber 1 = .ok (.istore_n 2, 1) := by decide +kernel
theorem dX2_memberWithNumber_2 : decode cX2_memberWithNumber 2 = .ok (.iconst 0, 1) := by decide +kernel
theorem dX2_memberWithNumber_3 : decode cX2_memberWithNumber 3 = .ok (.istore_n 3, 1) := by decide +kernel
theorem dX2_memberWithNumber_4 : decode cX2_memberWithNumber 4 = .ok (.iload_n 3, 1) := by decide +kernel
theorem dX2_memberWithNumber_5 : decode cX2_memberWithNumber 5 = .ok (.bipush 10, 2) := by decide +kernel
theorem dX2_memberWithNumber_7 : decode cX2_memberWithNumber 7 = .ok (.if_icmp .ge 26, 3) := by decide +kernel
theorem dX2_memberWithNumber_10 : decode cX2_memberWithNumber 10 = .ok (.iload_n 0, 1) := by decide +kernel
theorem dX2_memberWithNumber_11 : decode cX2_memberWithNumber 11 = .ok (.iload_n 3, 1) := by decide +kernel
theorem dX2_memberWithNumber_12 : decode cX2_memberWithNumber 12 = .ok (.invokestatic 68, 3) := by decide +kernel
theorem dX2_memberWithNumber_15 : decode cX2_memberWithNumber 15 = .ok (.ifCond .eq 12, 3) := by decide +kernel
theorem dX2_memberWithNumber_18 : decode cX2_memberWithNumber 18 = .ok (.iload_n 2, 1) := by decide +kernel
theorem dX2_memberWithNumber_19 : decode cX2_memberWithNumber 19 = .ok (.ifCond .ne 5, 3) := by decide +kernel
theorem dX2_memberWithNumber_22 : decode cX2_memberWithNumber 22 = .ok (.iload_n 3, 1) := by decide +kernel
theorem dX2_memberWithNumber_23 : decode cX2_memberWithNumber 23 = .ok (.ireturn, 1) := by decide +kernel
theorem dX2_memberWithNumber_24 : decode cX2_memberWithNumber 24 = .ok (.iinc 2 (-1), 3) := by decide +kernel
theorem dX2_memberWithNumber_27 : decode cX2_memberWithNumber 27 = .ok (.iinc 3 1, 3) := by decide +kernel
theorem dX2_memberWithNumber_30 : decode cX2_memberWithNumber 30 = .ok (.goto (-26), 3) := by decide +kernel
theorem dX2_memberWithNumber_33 : decode cX2_memberWithNumber 33 = .ok (.iconst (-1), 1) := by decide +kernel
theorem dX2_memberWithNumber_34 : decode cX2_memberWithNumber 34 = .ok (.ireturn, 1) := by decide +kernel
set_option maxRecDepth 20000 in
theorem ggX2_primeAbove_X2_isPrime : GoodIn wsX2_primeAbove wsX2_isPrime := goodIn_r _ [4] (by decide +kernel) (by decide +kernel)
set_option maxRecDepth 20000 in
theorem gX2_primeAbove_X2_isPrime : GoodIn wsX2_primeAbove (va_wsS RX2 93 yX2_isPrime wsX2_isPrime) := goodIn_app (goodIn_of _ (by decide +kernel)) ggX2_primeAbove_X2_isPrime
theorem dX2_primeAbove_0 : decode cX2_primeAbove 0 = .ok (.iload_n 0, 1) := by decide +kernel
theorem dX2_primeAbove_1 : decode cX2_primeAbove 1 = .ok (.iconst 1, 1) := by decide +kernel
theorem dX2_primeAbove_2 : decode cX2_primeAbove 2 = .ok (.iadd, 1) := by decide +kernel
theorem dX2_primeAbove_3 : decode cX2_primeAbove 3 = .ok (.istore_n 1, 1) := by decide +kernel
theorem dX2_primeAbove_4 : decode cX2_primeAbove 4 = .ok (.iload_n 1, 1) := by decide +kernel
theorem dX2_primeAbove_5 : decode cX2_primeAbove 5 = .ok (.iconst 2, 1) := by decide +kernel
theorem dX2_primeAbove_6 : decode cX2_primeAbove 6 = .ok (.iload_n 0, 1) := by decide +kernel
theorem dX2_primeAbove_7 : decode cX2_primeAbove 7 = .ok (.imul, 1) := by decide +kernel
theorem dX2_primeAbove_8 : decode cX2_primeAbove 8 = .ok (.if_icmp .ge 16, 3) := by decide +kernel
theorem dX2_primeAbove_11 : decode cX2_primeAbove 11 = .ok (.iload_n 1, 1) := by decide +kernel
theorem dX2_primeAbove_12 : decode cX2_primeAbove 12 = .ok (.invokestatic 93, 3) := by decide +kernel
theorem dX2_primeAbove_15 : decode cX2_primeAbove 15 = .ok (.ifCond .ne 9, 3) := by decide +kernel
theorem dX2_primeAbove_18 : decode cX2_primeAbove 18 = .ok (.iinc 1 1, 3) := by decide +kernel
theorem dX2_primeAbove_21 : decode cX2_primeAbove 21 = .ok (.goto (-17), 3) := by decide +kernel
theorem dX2_primeAbove_24 : decode cX2_primeAbove 24 = .ok (.iload_n 1, 1) := by decide +kernel
theorem dX2_primeAbove_25 : decode cX2_primeAbove 25 = .ok (.ireturn, 1) := by decide +kernel
theorem dX2_isPrime_0 : decode cX2_isPrime 0 = .ok (.iconst 2, 1) := by decide +kernel
theorem dX2_isPrime_1 : decode cX2_isPrime 1 = .ok (.istore_n 1, 1) := by decide +kernel
theorem dX2_isPrime_2 : decode cX2_isPrime 2 = .ok (.iload_n 1, 1) := by decide +kernel
theorem dX2_isPrime_3 : decode cX2_isPrime 3 = .ok (.iload_n 0, 1) := by decide +kernel
theorem dX2_isPrime_4 : decode cX2_isPrime 4 = .ok (.if_icmp .ge 17, 3) := by decide +kernel
theorem dX2_isPrime_7 : decode cX2_isPrime 7 = .ok (.iload_n 0, 1) := by decide +kernel
theorem dX2_isPrime_8 : decode cX2_isPrime 8 = .ok (.iload_n 1, 1) := by decide +kernel
theorem dX2_isPrime_9 : decode cX2_isPrime 9 = .ok (.irem, 1) := by decide +kernel
theorem dX2_isPrime_10 : decode cX2_isPrime 10 = .ok (.ifCond .ne 5, 3) := by decide +kernel
theorem dX2_isPrime_13 : decode cX2_isPrime 13 = .ok (.iconst 0, 1) := by decide +kernel
theorem dX2_isPrime_14 : decode cX2_isPrime 14 = .ok (.ireturn, 1) := by decide +kernel
theorem dX2_isPrime_15 : decode cX2_isPrime 15 = .ok (.iinc 1 1, 3) := by decide +kernel
theorem dX2_isPrime_18 : decode cX2_isPrime 18 = .ok (.goto (-16), 3) := by decide +kernel
theorem dX2_isPrime_21 : decode cX2_isPrime 21 = .ok (.iconst 1, 1) := by decide +kernel
theorem dX2_isPrime_22 : decode cX2_isPrime 22 = .ok (.ireturn, 1) := by decide +kernel
theorem dX2_nextLot_0 : decode cX2_nextLot 0 = .ok (.lload_n 0, 1) := by decide +kernel
theorem dX2_nextLot_1 : decode cX2_nextLot 1 = .ok (.ldc2_w 97, 3) := by decide +kernel
theorem dX2_nextLot_4 : decode cX2_nextLot 4 = .ok (.lmul, 1) := by decide +kernel
theorem dX2_nextLot_5 : decode cX2_nextLot 5 = .ok (.ldc2_w 99, 3) := by decide +kernel
theorem dX2_nextLot_8 : decode cX2_nextLot 8 = .ok (.lrem, 1) := by decide +kernel
theorem dX2_nextLot_9 : decode cX2_nextLot 9 = .ok (.lreturn, 1) := by decide +kernel
set_option maxRecDepth 20000 in
theorem ggX3_init_X2_init : GoodIn wsX3_init wsX2_init := goodIn_r _ [25, 26, 2, 3, 27, 19, 28, 29, 30, 31, 32, 6, 33, 34, 35, 36, 37, 38, 39, 40, 41, 42, 43, 57, 58, 59, 60, 61, 62] (by decide +kernel) (by decide +kernel)
set_option maxRecDepth 20000 in
theorem gX3_init_X2_init : GoodIn wsX3_init (wsX2_init) := ggX3_init_X2_init
set_option maxRecDepth 20000 in
theorem ggX3_init_X1_init : GoodIn wsX3_init wsX1_init := goodIn_r _ [46, 47, 2, 3, 48, 49, 5, 6, 50, 24, 25, 26, 27, 19, 28, 29, 30, 31, 32, 33, 34, 35, 36, 37, 38, 39, 40, 41, 42, 43, 71, 72, 73, 57, 58, 59, 60, 61, 62] (by decide +kernel) (by decide +kernel)
set_option maxRecDepth 20000 in
theorem gX3_init_X1_init : GoodIn wsX3_init (wsX1_init) := ggX3_init_X1_init
set_option maxRecDepth 20000 in
theorem ggX3_init_X0_init : GoodIn wsX3_init wsX0_init := goodIn_r _ [53, 54, 2, 3, 19, 55, 56, 74, 75, 76, 77] (by decide +kernel) (by decide +kernel)
set_option maxRecDepth 20000 in
theorem gX3_init_X0_init : GoodIn wsX3_init (wsX0_init) := ggX3_init_X0_init
theorem dX3_init_0 : decode cX3_init 0 = .ok (.aload_n 0, 1) := by decide +kernel
theorem dX3_init_1 : decode cX3_init 1 = .ok (.invokespecial 1, 3) := by decide +kernel
theorem dX3_init_4 : decode cX3_init 4 = .ok (.aload_n 0, 1) := by decide +kernel
theorem dX3_init_5 : decode cX3_init 5 = .ok (.new 7, 3) := by decide +kernel
theorem dX3_init_8 : decode cX3_init 8 = .ok (.dup, 1) := by decide +kernel
theorem dX3_init_9 : decode cX3_init 9 = .ok (.invokespecial 9, 3) := by decide +kernel
theorem dX3_init_12 : decode cX3_init 12 = .ok (.putfield 10, 3) := by decide +kernel
theorem dX3_init_15 : decode cX3_init 15 = .ok (.aload_n 0, 1) := by decide +kernel
theorem dX3_init_16 : decode cX3_init 16 = .ok (.new 16, 3) := by decide +kernel
theorem dX3_init_19 : decode cX3_init 19 = .ok (.dup, 1) := by decide +kernel
theorem dX3_init_20 : decode cX3_init 20 = .ok (.invokespecial 18, 3) := by decide +kernel
theorem dX3_init_23 : decode cX3_init 23 = .ok (.putfield 19, 3) := by decide +kernel
theorem dX3_init_26 : decode cX3_init 26 = .ok (.aload_n 0, 1) := by decide +kernel
theorem dX3_init_27 : decode cX3_init 27 = .ok (.iconst 2, 1) := by decide +kernel
theorem dX3_init_28 : decode cX3_init 28 = .ok (.anewarray 7, 3) := by decide +kernel
theorem dX3_init_31 : decode cX3_init 31 = .ok (.putfield 23, 3) := by decide +kernel
theorem dX3_init_34 : decode cX3_init 34 = .ok (.iconst 0, 1) := by decide +kernel
theorem dX3_init_35 : decode cX3_init 35 = .ok (.istore_n 1, 1) := by decide +kernel
theorem dX3_init_36 : decode cX3_init 36 = .ok (.iload_n 1, 1) := by decide +kernel
theorem dX3_init_37 : decode cX3_init 37 = .ok (.iconst 2, 1) := by decide +kernel
theorem dX3_init_38 : decode cX3_init 38 = .ok (.if_icmp .ge 22, 3) := by decide +kernel
theorem dX3_init_41 : decode cX3_init 41 = .ok (.aload_n 0, 1) := by decide +kernel
theorem dX3_init_42 : decode cX3_init 42 = .ok (.getfield 23, 3) := by decide +kernel
theorem dX3_init_45 : decode cX3_init 45 = .ok (.iload_n 1, 1) := by decide +kernel
theorem dX3_init_46 : decode cX3_init 46 = .ok (.new 7, 3) := by decide +kernel
theorem dX3_init_49 : decode cX3_init 49 = .ok (.dup, 1) := by decide +kernel
theorem dX3_init_50 : decode cX3_init 50 = .ok (.invokespecial 9, 3) := by decide +kernel
theorem dX3_init_53 : decode cX3_init 53 = .ok (.aastore, 1) := by decide +kernel
theorem dX3_init_54 : decode cX3_init 54 = .ok (.iinc 1 1, 3) := by decide +kernel
theorem dX3_init_57 : decode cX3_init 57 = .ok (.goto (-21), 3) := by decide +kernel
theorem dX3_init_60 : decode cX3_init 60 = .ok (.aload_n 0, 1) := by decide +kernel
theorem dX3_init_61 : decode cX3_init 61 = .ok (.iconst 2, 1) := by decide +kernel
theorem dX3_init_62 : decode cX3_init 62 = .ok (.newarray .boolean, 2) := by decide +kernel
theorem dX3_init_64 : decode cX3_init 64 = .ok (.putfield 27, 3) := by decide +kernel
theorem dX3_init_67 : decode cX3_init 67 = .ok (.aload_n 0, 1) := by decide +kernel
theorem dX3_init_68 : decode cX3_init 68 = .ok (.new 31, 3) := by decide +kernel
theorem dX3_init_71 : decode cX3_init 71 = .ok (.dup, 1) := by decide +kernel
theorem dX3_init_72 : decode cX3_init 72 = .ok (.invokespecial 33, 3) := by decide +kernel
theorem dX3_init_75 : decode cX3_init 75 = .ok (.putfield 34, 3) := by decide +kernel
theorem dX3_init_78 : decode cX3_init 78 = .ok (.aload_n 0, 1) := by decide +kernel
theorem dX3_init_79 : decode cX3_init 79 = .ok (.sipush 1700, 3) := by decide +kernel
theorem dX3_init_82 : decode cX3_init 82 = .ok (.newarray .int, 2) := by decide +kernel
theorem dX3_init_84 : decode cX3_init 84 = .ok (.putfield 38, 3) := by decide +kernel
theorem dX3_init_87 : decode cX3_init 87 = .ok (.aload_n 0, 1) := by decide +kernel
theorem dX3_init_88 : decode cX3_init 88 = .ok (.sipush 1500, 3) := by decide +kernel
theorem dX3_init_91 : decode cX3_init 91 = .ok (.newarray .int, 2) := by decide +kernel
theorem dX3_init_93 : decode cX3_init 93 = .ok (.putfield 42, 3) := by decide +kernel
theorem dX3_init_96 : decode cX3_init 96 = .ok (.aload_n 0, 1) := by decide +kernel
theorem dX3_init_97 : decode cX3_init 97 = .ok (.bipush 10, 2) := by decide +kernel
theorem dX3_init_99 : decode cX3_init 99 = .ok (.newarray .int, 2) := by decide +kernel
theorem dX3_init_101 : decode cX3_init 101 = .ok (.putfield 45, 3) := by decide +kernel
theorem dX3_init_104 : decode cX3_init 104 = .ok (.return_, 1) := by decide +kernel
set_option maxRecDepth 20000 in
theorem ggX3_channels_X2_clear : GoodIn wsX3_channels wsX2_clear := goodIn_r _ [10, 11, 12, 13, 14, 15, 16, 9, 17, 18, 19, 20, 44, 45, 46, 47, 48, 49] (by decide +kernel) (by decide +kernel)
set_option maxRecDepth 20000 in
theorem gX3_channels_X2_clear : GoodIn wsX3_channels (wsV RX3 49 RX2 yX2_clear wsX2_clear) := goodIn_app (goodIn_of _ (by decide +kernel)) ggX3_channels_X2_clear
set_option maxRecDepth 20000 in
theorem ggX3_channels_X1_forget : GoodIn wsX3_channels wsX1_forget := goodIn_r _ [25, 26, 27, 50, 51, 52] (by decide +kernel) (by decide +kernel)
set_option maxRecDepth 20000 in
theorem gX3_channels_X1_forget : GoodIn wsX3_channels (wsV RX3 53 RX1 yX1_forget wsX1_forget) := goodIn_app (goodIn_of _ (by decide +kernel)) ggX3_channels_X1_forget
set_option maxRecDepth 20000 in
theorem ggX3_channels_X0_begin : GoodIn wsX3_channels wsX0_begin := goodIn_r _ [32, 33, 34, 35, 53, 54, 55, 56] (by decide +kernel) (by decide +kernel)
set_option maxRecDepth 20000 in
theorem gX3_channels_X0_begin : GoodIn wsX3_channels (wsV RX3 56 RX0 yX0_begin wsX0_begin) := goodIn_app (goodIn_of _ (by decide +kernel)) ggX3_channels_X0_begin
theorem dX3_channels_0 : decode cX3_channels 0 = .ok (.iload_n 1, 1) := by decide +kernel
theorem dX3_channels_1 : decode cX3_channels 1 = .ok (.iconst 2, 1) := by decide +kernel
theorem dX3_channels_2 : decode cX3_channels 2 = .ok (.if_icmp .lt 9, 3) := by decide +kernel
theorem dX3_channels_5 : decode cX3_channels 5 = .ok (.iload_n 1, 1) := by decide +kernel
theorem dX3_channels_6 : decode cX3_channels 6 = .ok (.bipush 10, 2) := by decide +kernel
theorem dX3_channels_8 : decode cX3_channels 8 = .ok (.if_icmp .le 6, 3) := by decide +kernel
theorem dX3_channels_11 : decode cX3_channels 11 = .ok (.ldc 48, 2) := by decide +kernel
theorem dX3_channels_13 : decode cX3_channels 13 = .ok (.ireturn, 1) := by decide +kernel
theorem dX3_channels_14 : decode cX3_channels 14 = .ok (.aload_n 0, 1) := by decide +kernel
theorem dX3_channels_15 : decode cX3_channels 15 = .ok (.getfield 10, 3) := by decide +kernel
theorem dX3_channels_18 : decode cX3_channels 18 = .ok (.iload_n 1, 1) := by decide +kernel
theorem dX3_channels_19 : decode cX3_channels 19 = .ok (.invokevirtual 49, 3) := by decide +kernel
theorem dX3_channels_22 : decode cX3_channels 22 = .ok (.aload_n 0, 1) := by decide +kernel
theorem dX3_channels_23 : decode cX3_channels 23 = .ok (.getfield 19, 3) := by decide +kernel
theorem dX3_channels_26 : decode cX3_channels 26 = .ok (.invokevirtual 53, 3) := by decide +kernel
theorem dX3_channels_29 : decode cX3_channels 29 = .ok (.aload_n 0, 1) := by decide +kernel
theorem dX3_channels_30 : decode cX3_channels 30 = .ok (.getfield 34, 3) := by decide +kernel
theorem dX3_channels_33 : decode cX3_channels 33 = .ok (.iconst 0, 1) := by decide +kernel
theorem dX3_channels_34 : decode cX3_channels 34 = .ok (.invokevirtual 56, 3) := by decide +kernel
theorem dX3_channels_37 : decode cX3_channels 37 = .ok (.aload_n 0, 1) := by decide +kernel
theorem dX3_channels_38 : decode cX3_channels 38 = .ok (.getfield 10, 3) := by decide +kernel
theorem dX3_channels_41 : decode cX3_channels 41 = .ok (.getfield 59, 3) := by decide +kernel
theorem dX3_channels_44 : decode cX3_channels 44 = .ok (.ireturn, 1) := by decide +kernel
set_option maxRecDepth 20000 in
theorem ggX3_user_X3_mayHave : GoodIn wsX3_user wsX3_mayHave := goodIn_r _ [10, 11] (by decide +kernel) (by decide +kernel)
set_option maxRecDepth 20000 in
theorem gX3_user_X3_mayHave : GoodIn wsX3_user (va_wsS RX3 63 yX3_mayHave wsX3_mayHave) := goodIn_app (goodIn_of _ (by decide +kernel)) ggX3_user_X3_mayHave
set_option maxRecDepth 20000 in
theorem ggX3_user_X1_remember : GoodIn wsX3_user wsX1_remember := goodIn_r _ [16, 17, 18, 19, 20, 21, 22, 23, 24, 25, 26, 27, 28, 29, 30, 31, 32, 33, 34, 35, 36, 37, 38, 69, 70, 71, 63, 64, 65, 66, 67, 68] (by decide +kernel) (by decide +kernel)
set_option maxRecDepth 20000 in
theorem gX3_user_X1_remember : GoodIn wsX3_user (wsV RX3 71 RX1 yX1_remember wsX1_remember) := goodIn_app (goodIn_of _ (by decide +kernel)) ggX3_user_X1_remember
set_option maxRecDepth 20000 in
theorem ggX3_user_X2_addUser : GoodIn wsX3_user wsX2_addUser := goodIn_r _ [42, 33, 31, 43, 44, 45, 27, 46, 29, 63, 64, 65, 66, 67, 68] (by decide +kernel) (by decide +kernel)
set_option maxRecDepth 20000 in
theorem gX3_user_X2_addUser : GoodIn wsX3_user (wsV RX3 75 RX2 yX2_addUser wsX2_addUser) := goodIn_app (goodIn_of _ (by decide +kernel)) ggX3_user_X2_addUser
set_option maxRecDepth 20000 in
theorem ggX3_user_X0_begin : GoodIn wsX3_user wsX0_begin := goodIn_r _ [51, 52, 53, 54, 72, 73, 74, 75] (by decide +kernel) (by decide +kernel)
set_option maxRecDepth 20000 in
theorem gX3_user_X0_begin : GoodIn wsX3_user (wsV RX3 56 RX0 yX0_begin wsX0_begin) := goodIn_app (goodIn_of _ (by decide +kernel)) ggX3_user_X0_begin
theorem dX3_user_0 : decode cX3_user 0 = .ok (.iconst 0, 1) := by decide +kernel
theorem dX3_user_1 : decode cX3_user 1 = .ok (.iload_n 1, 1) := by decide +kernel
theorem dX3_user_2 : decode cX3_user 2 = .ok (.invokestatic 63, 3) := by decide +kernel
theorem dX3_user_5 : decode cX3_user 5 = .ok (.ifCond .eq 28, 3) := by decide +kernel
theorem dX3_user_8 : decode cX3_user 8 = .ok (.iconst 1, 1) := by decide +kernel
theorem dX3_user_9 : decode cX3_user 9 = .ok (.iload_n 2, 1) := by decide +kernel
theorem dX3_user_10 : decode cX3_user 10 = .ok (.invokestatic 63, 3) := by decide +kernel
theorem dX3_user_13 : decode cX3_user 13 = .ok (.ifCond .eq 20, 3) := by decide +kernel
theorem dX3_user_16 : decode cX3_user 16 = .ok (.iconst 2, 1) := by decide +kernel
theorem dX3_user_17 : decode cX3_user 17 = .ok (.iload_n 3, 1) := by decide +kernel
theorem dX3_user_18 : decode cX3_user 18 = .ok (.invokestatic 63, 3) := by decide +kernel
theorem dX3_user_21 : decode cX3_user 21 = .ok (.ifCond .eq 12, 3) := by decide +kernel
theorem dX3_user_24 : decode cX3_user 24 = .ok (.iconst 3, 1) := by decide +kernel
theorem dX3_user_25 : decode cX3_user 25 = .ok (.iload 4, 2) := by decide +kernel
theorem dX3_user_27 : decode cX3_user 27 = .ok (.invokestatic 63, 3) := by decide +kernel
theorem dX3_user_30 : decode cX3_user 30 = .ok (.ifCond .ne 6, 3) := by decide +kernel
theorem dX3_user_33 : decode cX3_user 33 = .ok (.ldc 48, 2) := by decide +kernel
theorem dX3_user_35 : decode cX3_user 35 = .ok (.ireturn, 1) := by decide +kernel
theorem dX3_user_36 : decode cX3_user 36 = .ok (.aload_n 0, 1) := by decide +kernel
theorem dX3_user_37 : decode cX3_user 37 = .ok (.getfield 10, 3) := by decide +kernel
theorem dX3_user_40 : decode cX3_user 40 = .ok (.getfield 67, 3) := by decide +kernel
theorem dX3_user_43 : decode cX3_user 43 = .ok (.iconst 5, 1) := by decide +kernel
theorem dX3_user_44 : decode cX3_user 44 = .ok (.if_icmp .lt 6, 3) := by decide +kernel
theorem dX3_user_47 : decode cX3_user 47 = .ok (.ldc 70, 2) := by decide +kernel
theorem dX3_user_49 : decode cX3_user 49 = .ok (.ireturn, 1) := by decide +kernel
theorem dX3_user_50 : decode cX3_user 50 = .ok (.aload_n 0, 1) := by decide +kernel
theorem dX3_user_51 : decode cX3_user 51 = .ok (.getfield 19, 3) := by decide +kernel
theorem dX3_user_54 : decode cX3_user 54 = .ok (.aload_n 0, 1) := by decide +kernel
theorem dX3_user_55 : decode cX3_user 55 = .ok (.getfield 10, 3) := by decide +kernel
theorem dX3_user_58 : decode cX3_user 58 = .ok (.invokevirtual 71, 3) := by decide +kernel
theorem dX3_user_61 : decode cX3_user 61 = .ok (.aload_n 0, 1) := by decide +kernel
theorem dX3_user_62 : decode cX3_user 62 = .ok (.getfield 10, 3) := by decide +kernel
theorem dX3_user_65 : decode cX3_user 65 = .ok (.iload_n 1, 1) := by decide +kernel
theorem dX3_user_66 : decode cX3_user 66 = .ok (.iload_n 2, 1) := by decide +kernel
theorem dX3_user_67 : decode cX3_user 67 = .ok (.iload_n 3, 1) := by decide +kernel
theorem dX3_user_68 : decode cX3_user 68 = .ok (.iload 4, 2) := by decide +kernel
theorem dX3_user_70 : decode cX3_user 70 = .ok (.invokevirtual 75, 3) := by decide +kernel
theorem dX3_user_73 : decode cX3_user 73 = .ok (.aload_n 0, 1) := by decide +kernel
theorem dX3_user_74 : decode cX3_user 74 = .ok (.getfield 34, 3) := by decide +kernel
theorem dX3_user_77 : decode cX3_user 77 = .ok (.aload_n 0, 1) := by decide +kernel
theorem dX3_user_78 : decode cX3_user 78 = .ok (.getfield 10, 3) := by decide +kernel
theorem dX3_user_81 : decode cX3_user 81 = .ok (.getfield 67, 3) := by decide +kernel
theorem dX3_user_84 : decode cX3_user 84 = .ok (.invokevirtual 56, 3) := by decide +kernel
theorem dX3_user_87 : decode cX3_user 87 = .ok (.aload_n 0, 1) := by decide +kernel
theorem dX3_user_88 : decode cX3_user 88 = .ok (.getfield 10, 3) := by decide +kernel
theorem dX3_user_91 : decode cX3_user 91 = .ok (.getfield 67, 3) := by decide +kernel
theorem dX3_user_94 : decode cX3_user 94 = .ok (.iconst 1, 1) := by decide +kernel
theorem dX3_user_95 : decode cX3_user 95 = .ok (.isub, 1) := by decide +kernel
theorem dX3_user_96 : decode cX3_user 96 = .ok (.ireturn, 1) := by decide +kernel
set_option maxRecDepth 20000 in
theorem ggX3_open_X3_isUser : GoodIn wsX3_open wsX3_isUser := goodIn_r _ [8, 2, 9, 56, 57, 58, 59, 60, 61, 62, 63, 64, 65, 66, 67, 68, 69] (by decide +kernel) (by decide +kernel)
set_option maxRecDepth 20000 in
theorem gX3_open_X3_isUser : GoodIn wsX3_open (wsV RX3 79 RX3 yX3_isUser wsX3_isUser) := goodIn_app (goodIn_of _ (by decide +kernel)) ggX3_open_X3_isUser
set_option maxRecDepth 20000 in
theorem ggX3_open_X2_allChannels : GoodIn wsX3_open wsX2_allChannels := goodIn_r _ [14, 15, 64, 65, 66, 67, 68, 69] (by decide +kernel) (by decide +kernel)
set_option maxRecDepth 20000 in
theorem gX3_open_X2_allChannels : GoodIn wsX3_open (wsV RX3 84 RX2 yX2_allChannels wsX2_allChannels) := goodIn_app (goodIn_of _ (by decide +kernel)) ggX3_open_X2_allChannels
set_option maxRecDepth 20000 in
theorem ggX3_open_X3_change : GoodIn wsX3_open wsX3_change := goodIn_r _ [19, 20, 2, 21, 22, 9, 23, 24, 25, 26, 27, 28, 29, 30, 31, 32, 33, 34, 35, 36, 37, 13, 38, 15, 39, 40, 41, 42, 43, 44, 45, 46, 47, 48, 49, 50, 51, 52, 53, 54, 55, 56, 57, 58, 59, 60, 61, 62, 63, 64, 65, 66, 67, 68, 69, 70, 71, 72, 73, 74, 75, 76] (by decide +kernel) (by decide +kernel)
set_option maxRecDepth 20000 in
theorem gX3_open_X3_change : GoodIn wsX3_open (wsV RX3 88 RX3 yX3_change wsX3_change) := goodIn_app (goodIn_of _ (by decide +kernel)) ggX3_open_X3_change
theorem dX3_open_0 : decode cX3_open 0 = .ok (.aload_n 0, 1) := by decide +kernel
theorem dX3_open_1 : decode cX3_open 1 = .ok (.iload_n 1, 1) := by decide +kernel
theorem dX3_open_2 : decode cX3_open 2 = .ok (.invokevirtual 79, 3) := by decide +kernel
theorem dX3_open_5 : decode cX3_open 5 = .ok (.ifCond .ne 6, 3) := by decide +kernel
theorem dX3_open_8 : decode cX3_open 8 = .ok (.ldc 83, 2) := by decide +kernel
theorem dX3_open_10 : decode cX3_open 10 = .ok (.ireturn, 1) := by decide +kernel
theorem dX3_open_11 : decode cX3_open 11 = .ok (.iload_n 2, 1) := by decide +kernel
theorem dX3_open_12 : decode cX3_open 12 = .ok (.ifCond .lt 14, 3) := by decide +kernel
theorem dX3_open_15 : decode cX3_open 15 = .ok (.iload_n 2, 1) := by decide +kernel
theorem dX3_open_16 : decode cX3_open 16 = .ok (.aload_n 0, 1) := by decide +kernel
theorem dX3_open_17 : decode cX3_open 17 = .ok (.getfield 10, 3) := by decide +kernel
theorem dX3_open_20 : decode cX3_open 20 = .ok (.invokevirtual 84, 3) := by decide +kernel
theorem dX3_open_23 : decode cX3_open 23 = .ok (.if_icmp .le 6, 3) := by decide +kernel
theorem dX3_open_26 : decode cX3_open 26 = .ok (.ldc 48, 2) := by decide +kernel
theorem dX3_open_28 : decode cX3_open 28 = .ok (.ireturn, 1) := by decide +kernel
theorem dX3_open_29 : decode cX3_open 29 = .ok (.aload_n 0, 1) := by decide +kernel
theorem dX3_open_30 : decode cX3_open 30 = .ok (.iload_n 1, 1) := by decide +kernel
theorem dX3_open_31 : decode cX3_open 31 = .ok (.iconst 4, 1) := by decide +kernel
theorem dX3_open_32 : decode cX3_open 32 = .ok (.iload_n 2, 1) := by decide +kernel
theorem dX3_open_33 : decode cX3_open 33 = .ok (.invokevirtual 88, 3) := by decide +kernel
theorem dX3_open_36 : decode cX3_open 36 = .ok (.ireturn, 1) := by decide +kernel
set_option maxRecDepth 20000 in
theorem ggX3_set_X3_isUser : GoodIn wsX3_set wsX3_isUser := goodIn_r _ [7, 8, 9, 56, 57, 58, 59, 60, 61, 62, 63, 64, 65, 66, 67, 68, 69] (by decide +kernel) (by decide +kernel)
set_option maxRecDepth 20000 in
theorem gX3_set_X3_isUser : GoodIn wsX3_set (wsV RX3 79 RX3 yX3_isUser wsX3_isUser) := goodIn_app (goodIn_of _ (by decide +kernel)) ggX3_set_X3_isUser
set_option maxRecDepth 20000 in
theorem ggX3_set_X3_mayHave : GoodIn wsX3_set wsX3_mayHave := goodIn_r _ [12, 13] (by decide +kernel) (by decide +kernel)
set_option maxRecDepth 20000 in
theorem gX3_set_X3_mayHave : GoodIn wsX3_set (va_wsS RX3 63 yX3_mayHave wsX3_mayHave) := goodIn_app (goodIn_of _ (by decide +kernel)) ggX3_set_X3_mayHave
set_option maxRecDepth 20000 in
theorem ggX3_set_X3_change : GoodIn wsX3_set wsX3_change := goodIn_r _ [17, 18, 8, 19, 20, 9, 21, 22, 23, 24, 25, 26, 27, 28, 29, 30, 31, 32, 33, 34, 35, 36, 37, 38, 39, 40, 41, 42, 43, 44, 45, 46, 47, 48, 49, 50, 51, 52, 53, 54, 55, 56, 57, 58, 59, 60, 61, 62, 63, 64, 65, 66, 67, 68, 69, 70, 71, 72, 73, 74, 75, 76] (by decide +kernel) (by decide +kernel)
set_option maxRecDepth 20000 in
theorem gX3_set_X3_change : GoodIn wsX3_set (wsV RX3 88 RX3 yX3_change wsX3_change) := goodIn_app (goodIn_of _ (by decide +kernel)) ggX3_set_X3_change
theorem dX3_set_0 : decode cX3_set 0 = .ok (.aload_n 0, 1) := by decide +kernel
theorem dX3_set_1 : decode cX3_set 1 = .ok (.iload_n 1, 1) := by decide +kernel
theorem dX3_set_2 : decode cX3_set 2 = .ok (.invokevirtual 79, 3) := by decide +kernel
theorem dX3_set_5 : decode cX3_set 5 = .ok (.ifCond .ne 6, 3) := by decide +kernel
theorem dX3_set_8 : decode cX3_set 8 = .ok (.ldc 83, 2) := by decide +kernel
theorem dX3_set_10 : decode cX3_set 10 = .ok (.ireturn, 1) := by decide +kernel
theorem dX3_set_11 : decode cX3_set 11 = .ok (.iload_n 2, 1) := by decide +kernel
theorem dX3_set_12 : decode cX3_set 12 = .ok (.iload_n 3, 1) := by decide +kernel
theorem dX3_set_13 : decode cX3_set 13 = .ok (.invokestatic 63, 3) := by decide +kernel
theorem dX3_set_16 : decode cX3_set 16 = .ok (.ifCond .ne 6, 3) := by decide +kernel
theorem dX3_set_19 : decode cX3_set 19 = .ok (.ldc 48, 2) := by decide +kernel
theorem dX3_set_21 : decode cX3_set 21 = .ok (.ireturn, 1) := by decide +kernel
theorem dX3_set_22 : decode cX3_set 22 = .ok (.aload_n 0, 1) := by decide +kernel
theorem dX3_set_23 : decode cX3_set 23 = .ok (.iload_n 1, 1) := by decide +kernel
theorem dX3_set_24 : decode cX3_set 24 = .ok (.iload_n 2, 1) := by decide +kernel
theorem dX3_set_25 : decode cX3_set 25 = .ok (.iload_n 3, 1) := by decide +kernel
theorem dX3_set_26 : decode cX3_set 26 = .ok (.invokevirtual 88, 3) := by decide +kernel
theorem dX3_set_29 : decode cX3_set 29 = .ok (.ireturn, 1) := by decide +kernel
set_option maxRecDepth 20000 in
theorem ggX3_shut_X3_isUser : GoodIn wsX3_shut wsX3_isUser := goodIn_r _ [14, 2, 9, 54, 55, 56, 57, 58, 59, 60, 61, 62, 63, 64, 65, 66, 67] (by decide +kernel) (by decide +kernel)
set_option maxRecDepth 20000 in
theorem gX3_shut_X3_isUser : GoodIn wsX3_shut (wsV RX3 79 RX3 yX3_isUser wsX3_isUser) := goodIn_app (goodIn_of _ (by decide +kernel)) ggX3_shut_X3_isUser
set_option maxRecDepth 20000 in
theorem ggX3_shut_X1_remember : GoodIn wsX3_shut wsX1_remember := goodIn_r _ [19, 20, 21, 22, 23, 24, 25, 26, 27, 28, 29, 30, 31, 32, 33, 34, 35, 36, 37, 38, 39, 40, 41, 68, 69, 70, 62, 63, 64, 65, 66, 67] (by decide +kernel) (by decide +kernel)
set_option maxRecDepth 20000 in
theorem gX3_shut_X1_remember : GoodIn wsX3_shut (wsV RX3 71 RX1 yX1_remember wsX1_remember) := goodIn_app (goodIn_of _ (by decide +kernel)) ggX3_shut_X1_remember
set_option maxRecDepth 20000 in
theorem ggX3_shut_X2_addSpell : GoodIn wsX3_shut wsX2_addSpell := goodIn_r _ [45, 41, 35, 62, 63, 64, 65, 66, 67] (by decide +kernel) (by decide +kernel)
set_option maxRecDepth 20000 in
theorem gX3_shut_X2_addSpell : GoodIn wsX3_shut (wsV RX3 98 RX2 yX2_addSpell wsX2_addSpell) := goodIn_app (goodIn_of _ (by decide +kernel)) ggX3_shut_X2_addSpell
set_option maxRecDepth 20000 in
theorem ggX3_shut_X0_begin : GoodIn wsX3_shut wsX0_begin := goodIn_r _ [50, 51, 52, 53, 71, 72, 73, 74] (by decide +kernel) (by decide +kernel)
set_option maxRecDepth 20000 in
theorem gX3_shut_X0_begin : GoodIn wsX3_shut (wsV RX3 56 RX0 yX0_begin wsX0_begin) := goodIn_app (goodIn_of _ (by decide +kernel)) ggX3_shut_X0_begin
theorem dX3_shut_0 : decode cX3_shut 0 = .ok (.iload_n 1, 1) := by decide +kernel
theorem dX3_shut_1 : decode cX3_shut 1 = .ok (.iconst (-1), 1) := by decide +kernel
theorem dX3_shut_2 : decode cX3_shut 2 = .ok (.if_icmp .eq 14, 3) := by decide +kernel
theorem dX3_shut_5 : decode cX3_shut 5 = .ok (.aload_n 0, 1) := by decide +kernel
theorem dX3_shut_6 : decode cX3_shut 6 = .ok (.iload_n 1, 1) := by decide +kernel
theorem dX3_shut_7 : decode cX3_shut 7 = .ok (.invokevirtual 79, 3) := by decide +kernel
theorem dX3_shut_10 : decode cX3_shut 10 = .ok (.ifCond .ne 6, 3) := by decide +kernel
theorem dX3_shut_13 : decode cX3_shut 13 = .ok (.ldc 83, 2) := by decide +kernel
theorem dX3_shut_15 : decode cX3_shut 15 = .ok (.ireturn, 1) := by decide +kernel
theorem dX3_shut_16 : decode cX3_shut 16 = .ok (.iload_n 2, 1) := by decide +kernel
theorem dX3_shut_17 : decode cX3_shut 17 = .ok (.ifCond .lt 14, 3) := by decide +kernel
theorem dX3_shut_20 : decode cX3_shut 20 = .ok (.iload_n 2, 1) := by decide +kernel
theorem dX3_shut_21 : decode cX3_shut 21 = .ok (.aload_n 0, 1) := by decide +kernel
theorem dX3_shut_22 : decode cX3_shut 22 = .ok (.getfield 10, 3) := by decide +kernel
theorem dX3_shut_25 : decode cX3_shut 25 = .ok (.getfield 92, 3) := by decide +kernel
theorem dX3_shut_28 : decode cX3_shut 28 = .ok (.if_icmp .lt 6, 3) := by decide +kernel
theorem dX3_shut_31 : decode cX3_shut 31 = .ok (.ldc 83, 2) := by decide +kernel
theorem dX3_shut_33 : decode cX3_shut 33 = .ok (.ireturn, 1) := by decide +kernel
theorem dX3_shut_34 : decode cX3_shut 34 = .ok (.iload_n 3, 1) := by decide +kernel
theorem dX3_shut_35 : decode cX3_shut 35 = .ok (.ifCond .lt 24, 3) := by decide +kernel
theorem dX3_shut_38 : decode cX3_shut 38 = .ok (.iload_n 3, 1) := by decide +kernel
theorem dX3_shut_39 : decode cX3_shut 39 = .ok (.sipush 1500, 3) := by decide +kernel
theorem dX3_shut_42 : decode cX3_shut 42 = .ok (.if_icmp .gt 17, 3) := by decide +kernel
theorem dX3_shut_45 : decode cX3_shut 45 = .ok (.iload 4, 2) := by decide +kernel
theorem dX3_shut_47 : decode cX3_shut 47 = .ok (.iconst 1, 1) := by decide +kernel
theorem dX3_shut_48 : decode cX3_shut 48 = .ok (.if_icmp .lt 11, 3) := by decide +kernel
theorem dX3_shut_51 : decode cX3_shut 51 = .ok (.iload 4, 2) := by decide +kernel
theorem dX3_shut_53 : decode cX3_shut 53 = .ok (.sipush 500, 3) := by decide +kernel
theorem dX3_shut_56 : decode cX3_shut 56 = .ok (.if_icmp .le 6, 3) := by decide +kernel
theorem dX3_shut_59 : decode cX3_shut 59 = .ok (.ldc 48, 2) := by decide +kernel
theorem dX3_shut_61 : decode cX3_shut 61 = .ok (.ireturn, 1) := by decide +kernel
theorem dX3_shut_62 : decode cX3_shut 62 = .ok (.aload_n 0, 1) := by decide +kernel
theorem dX3_shut_63 : decode cX3_shut 63 = .ok (.getfield 10, 3) := by decide +kernel
theorem dX3_shut_66 : decode cX3_shut 66 = .ok (.getfield 95, 3) := by decide +kernel
theorem dX3_shut_69 : decode cX3_shut 69 = .ok (.bipush 8, 2) := by decide +kernel
theorem dX3_shut_71 : decode cX3_shut 71 = .ok (.if_icmp .lt 6, 3) := by decide +kernel
theorem dX3_shut_74 : decode cX3_shut 74 = .ok (.ldc 70, 2) := by decide +kernel
theorem dX3_shut_76 : decode cX3_shut 76 = .ok (.ireturn, 1) := by decide +kernel
theorem dX3_shut_77 : decode cX3_shut 77 = .ok (.aload_n 0, 1) := by decide +kernel
theorem dX3_shut_78 : decode cX3_shut 78 = .ok (.getfield 19, 3) := by decide +kernel
theorem dX3_shut_81 : decode cX3_shut 81 = .ok (.aload_n 0, 1) := by decide +kernel
theorem dX3_shut_82 : decode cX3_shut 82 = .ok (.getfield 10, 3) := by decide +kernel
theorem dX3_shut_85 : decode cX3_shut 85 = .ok (.invokevirtual 71, 3) := by decide +kernel
theorem dX3_shut_88 : decode cX3_shut 88 = .ok (.aload_n 0, 1) := by decide +kernel
theorem dX3_shut_89 : decode cX3_shut 89 = .ok (.getfield 10, 3) := by decide +kernel
theorem dX3_shut_92 : decode cX3_shut 92 = .ok (.iload_n 1, 1) := by decide +kernel
theorem dX3_shut_93 : decode cX3_shut 93 = .ok (.iload_n 2, 1) := by decide +kernel
theorem dX3_shut_94 : decode cX3_shut 94 = .ok (.iload_n 3, 1) := by decide +kernel
theorem dX3_shut_95 : decode cX3_shut 95 = .ok (.iload 4, 2) := by decide +kernel
theorem dX3_shut_97 : decode cX3_shut 97 = .ok (.invokevirtual 98, 3) := by decide +kernel
theorem dX3_shut_100 : decode cX3_shut 100 = .ok (.aload_n 0, 1) := by decide +kernel
theorem dX3_shut_101 : decode cX3_shut 101 = .ok (.getfield 34, 3) := by decide +kernel
theorem dX3_shut_104 : decode cX3_shut 104 = .ok (.aload_n 0, 1) := by decide +kernel
theorem dX3_shut_105 : decode cX3_shut 105 = .ok (.getfield 10, 3) := by decide +kernel
theorem dX3_shut_108 : decode cX3_shut 108 = .ok (.getfield 67, 3) := by decide +kernel
theorem dX3_shut_111 : decode cX3_shut 111 = .ok (.invokevirtual 56, 3) := by decide +kernel
theorem dX3_shut_114 : decode cX3_shut 114 = .ok (.aload_n 0, 1) := by decide +kernel
theorem dX3_shut_115 : decode cX3_shut 115 = .ok (.getfield 10, 3) := by decide +kernel
theorem dX3_shut_118 : decode cX3_shut 118 = .ok (.getfield 95, 3) := by decide +kernel
theorem dX3_shut_121 : decode cX3_shut 121 = .ok (.ireturn, 1) := by decide +kernel
set_option maxRecDepth 20000 in
theorem ggX3_drift_X1_remember : GoodIn wsX3_drift wsX1_remember := goodIn_r _ [12, 13, 14, 15, 16, 17, 18, 19, 20, 21, 22, 23, 24, 25, 26, 27, 28, 29, 30, 31, 32, 33, 34, 77, 78, 79, 71, 72, 73, 74, 75, 76] (by decide +kernel) (by decide +kernel)
set_option maxRecDepth 20000 in
theorem gX3_drift_X1_remember : GoodIn wsX3_drift (wsV RX3 71 RX1 yX1_remember wsX1_remember) := goodIn_app (goodIn_of _ (by decide +kernel)) ggX3_drift_X1_remember
set_option maxRecDepth 20000 in
theorem ggX3_drift_X2_drawLots : GoodIn wsX3_drift wsX2_drawLots := goodIn_r _ [38, 27, 29, 39, 40, 41, 23, 42, 25, 43, 44, 45, 46, 47, 48, 49, 50, 71, 72, 73, 74, 75, 76] (by decide +kernel) (by decide +kernel)
set_option maxRecDepth 20000 in
theorem gX3_drift_X2_drawLots : GoodIn wsX3_drift (wsV RX3 103 RX2 yX2_drawLots wsX2_drawLots) := goodIn_app (goodIn_of _ (by decide +kernel)) ggX3_drift_X2_drawLots
set_option maxRecDepth 20000 in
theorem ggX3_drift_X0_begin : GoodIn wsX3_drift wsX0_begin := goodIn_r _ [55, 56, 57, 58, 80, 81, 82, 83] (by decide +kernel) (by decide +kernel)
set_option maxRecDepth 20000 in
theorem gX3_drift_X0_begin : GoodIn wsX3_drift (wsV RX3 56 RX0 yX0_begin wsX0_begin) := goodIn_app (goodIn_of _ (by decide +kernel)) ggX3_drift_X0_begin
set_option maxRecDepth 20000 in
theorem ggX3_drift_X2_commonChannels : GoodIn wsX3_drift wsX2_commonChannels := goodIn_r _ [62, 27, 29, 39, 40, 41, 23, 42, 25, 71, 72, 73, 74, 75, 76] (by decide +kernel) (by decide +kernel)
set_option maxRecDepth 20000 in
theorem gX3_drift_X2_commonChannels : GoodIn wsX3_drift (wsV RX3 106 RX2 yX2_commonChannels wsX2_commonChannels) := goodIn_app (goodIn_of _ (by decide +kernel)) ggX3_drift_X2_commonChannels
theorem dX3_drift_0 : decode cX3_drift 0 = .ok (.iload_n 1, 1) := by decide +kernel
theorem dX3_drift_1 : decode cX3_drift 1 = .ok (.iconst 1, 1) := by decide +kernel
theorem dX3_drift_2 : decode cX3_drift 2 = .ok (.if_icmp .lt 9, 3) := by decide +kernel
theorem dX3_drift_5 : decode cX3_drift 5 = .ok (.iload_n 1, 1) := by decide +kernel
theorem dX3_drift_6 : decode cX3_drift 6 = .ok (.ldc 101, 2) := by decide +kernel
theorem dX3_drift_8 : decode cX3_drift 8 = .ok (.if_icmp .le 6, 3) := by decide +kernel
theorem dX3_drift_11 : decode cX3_drift 11 = .ok (.ldc 48, 2) := by decide +kernel
theorem dX3_drift_13 : decode cX3_drift 13 = .ok (.ireturn, 1) := by decide +kernel
theorem dX3_drift_14 : decode cX3_drift 14 = .ok (.aload_n 0, 1) := by decide +kernel
theorem dX3_drift_15 : decode cX3_drift 15 = .ok (.getfield 10, 3) := by decide +kernel
theorem dX3_drift_18 : decode cX3_drift 18 = .ok (.getfield 67, 3) := by decide +kernel
theorem dX3_drift_21 : decode cX3_drift 21 = .ok (.ifCond .ne 6, 3) := by decide +kernel
theorem dX3_drift_24 : decode cX3_drift 24 = .ok (.ldc 102, 2) := by decide +kernel
theorem dX3_drift_26 : decode cX3_drift 26 = .ok (.ireturn, 1) := by decide +kernel
theorem dX3_drift_27 : decode cX3_drift 27 = .ok (.aload_n 0, 1) := by decide +kernel
theorem dX3_drift_28 : decode cX3_drift 28 = .ok (.getfield 19, 3) := by decide +kernel
theorem dX3_drift_31 : decode cX3_drift 31 = .ok (.aload_n 0, 1) := by decide +kernel
theorem dX3_drift_32 : decode cX3_drift 32 = .ok (.getfield 10, 3) := by decide +kernel
theorem dX3_drift_35 : decode cX3_drift 35 = .ok (.invokevirtual 71, 3) := by decide +kernel
theorem dX3_drift_38 : decode cX3_drift 38 = .ok (.aload_n 0, 1) := by decide +kernel
theorem dX3_drift_39 : decode cX3_drift 39 = .ok (.getfield 10, 3) := by decide +kernel
theorem dX3_drift_42 : decode cX3_drift 42 = .ok (.iload_n 1, 1) := by decide +kernel
theorem dX3_drift_43 : decode cX3_drift 43 = .ok (.invokevirtual 103, 3) := by decide +kernel
theorem dX3_drift_46 : decode cX3_drift 46 = .ok (.aload_n 0, 1) := by decide +kernel
theorem dX3_drift_47 : decode cX3_drift 47 = .ok (.getfield 34, 3) := by decide +kernel
theorem dX3_drift_50 : decode cX3_drift 50 = .ok (.aload_n 0, 1) := by decide +kernel
theorem dX3_drift_51 : decode cX3_drift 51 = .ok (.getfield 10, 3) := by decide +kernel
theorem dX3_drift_54 : decode cX3_drift 54 = .ok (.getfield 67, 3) := by decide +kernel
theorem dX3_drift_57 : decode cX3_drift 57 = .ok (.invokevirtual 56, 3) := by decide +kernel
theorem dX3_drift_60 : decode cX3_drift 60 = .ok (.aload_n 0, 1) := by decide +kernel
theorem dX3_drift_61 : decode cX3_drift 61 = .ok (.getfield 10, 3) := by decide +kernel
theorem dX3_drift_64 : decode cX3_drift 64 = .ok (.invokevirtual 106, 3) := by decide +kernel
theorem dX3_drift_67 : decode cX3_drift 67 = .ok (.ireturn, 1) := by decide +kernel
set_option maxRecDepth 20000 in
theorem ggX3_undo_X1_restore : GoodIn wsX3_undo wsX1_restore := goodIn_r _ [11, 12, 13, 14, 15, 16, 17, 18, 19, 20, 21, 22, 23, 24, 25, 26, 27, 28, 29, 46, 47, 48, 49, 50, 51, 52, 53, 54] (by decide +kernel) (by decide +kernel)
set_option maxRecDepth 20000 in
theorem gX3_undo_X1_restore : GoodIn wsX3_undo (wsV RX3 112 RX1 yX1_restore wsX1_restore) := goodIn_app (goodIn_of _ (by decide +kernel)) ggX3_undo_X1_restore
set_option maxRecDepth 20000 in
theorem ggX3_undo_X0_begin : GoodIn wsX3_undo wsX0_begin := goodIn_r _ [34, 35, 36, 37, 55, 56, 57, 58] (by decide +kernel) (by decide +kernel)
set_option maxRecDepth 20000 in
theorem gX3_undo_X0_begin : GoodIn wsX3_undo (wsV RX3 56 RX0 yX0_begin wsX0_begin) := goodIn_app (goodIn_of _ (by decide +kernel)) ggX3_undo_X0_begin
theorem dX3_undo_0 : decode cX3_undo 0 = .ok (.aload_n 0, 1) := by decide +kernel
theorem dX3_undo_1 : decode cX3_undo 1 = .ok (.getfield 19, 3) := by decide +kernel
theorem dX3_undo_4 : decode cX3_undo 4 = .ok (.getfield 109, 3) := by decide +kernel
theorem dX3_undo_7 : decode cX3_undo 7 = .ok (.ifCond .ne 6, 3) := by decide +kernel
theorem dX3_undo_10 : decode cX3_undo 10 = .ok (.ldc 102, 2) := by decide +kernel
theorem dX3_undo_12 : decode cX3_undo 12 = .ok (.ireturn, 1) := by decide +kernel
theorem dX3_undo_13 : decode cX3_undo 13 = .ok (.aload_n 0, 1) := by decide +kernel
theorem dX3_undo_14 : decode cX3_undo 14 = .ok (.getfield 19, 3) := by decide +kernel
theorem dX3_undo_17 : decode cX3_undo 17 = .ok (.aload_n 0, 1) := by decide +kernel
theorem dX3_undo_18 : decode cX3_undo 18 = .ok (.getfield 10, 3) := by decide +kernel
theorem dX3_undo_21 : decode cX3_undo 21 = .ok (.invokevirtual 112, 3) := by decide +kernel
theorem dX3_undo_24 : decode cX3_undo 24 = .ok (.aload_n 0, 1) := by decide +kernel
theorem dX3_undo_25 : decode cX3_undo 25 = .ok (.getfield 34, 3) := by decide +kernel
theorem dX3_undo_28 : decode cX3_undo 28 = .ok (.aload_n 0, 1) := by decide +kernel
theorem dX3_undo_29 : decode cX3_undo 29 = .ok (.getfield 10, 3) := by decide +kernel
theorem dX3_undo_32 : decode cX3_undo 32 = .ok (.getfield 67, 3) := by decide +kernel
theorem dX3_undo_35 : decode cX3_undo 35 = .ok (.invokevirtual 56, 3) := by decide +kernel
theorem dX3_undo_38 : decode cX3_undo 38 = .ok (.aload_n 0, 1) := by decide +kernel
theorem dX3_undo_39 : decode cX3_undo 39 = .ok (.getfield 19, 3) := by decide +kernel
theorem dX3_undo_42 : decode cX3_undo 42 = .ok (.getfield 109, 3) := by decide +kernel
theorem dX3_undo_45 : decode cX3_undo 45 = .ok (.ireturn, 1) := by decide +kernel
set_option maxRecDepth 20000 in
theorem ggX3_told_X2_commonChannels : GoodIn wsX3_told wsX2_commonChannels := goodIn_r _ [15, 16, 17, 18, 19, 20, 14, 21, 22, 38, 39, 40, 41, 42, 43] (by decide +kernel) (by decide +kernel)
set_option maxRecDepth 20000 in
theorem gX3_told_X2_commonChannels : GoodIn wsX3_told (wsV RX3 106 RX2 yX2_commonChannels wsX2_commonChannels) := goodIn_app (goodIn_of _ (by decide +kernel)) ggX3_told_X2_commonChannels
set_option maxRecDepth 20000 in
theorem ggX3_told_X0_howMany : GoodIn wsX3_told wsX0_howMany := goodIn_r _ [27, 28, 29, 44, 45, 46, 47] (by decide +kernel) (by decide +kernel)
set_option maxRecDepth 20000 in
theorem gX3_told_X0_howMany : GoodIn wsX3_told (wsV RX3 118 RX0 yX0_howMany wsX0_howMany) := goodIn_app (goodIn_of _ (by decide +kernel)) ggX3_told_X0_howMany
theorem dX3_told_0 : decode cX3_told 0 = .ok (.iload_n 1, 1) := by decide +kernel
theorem dX3_told_1 : decode cX3_told 1 = .ok (.tableswitch 132 0 8 #[51, 59, 67, 75, 83, 91, 99, 107, 124], 51) := by decide +kernel
theorem dX3_told_52 : decode cX3_told 52 = .ok (.aload_n 0, 1) := by decide +kernel
theorem dX3_told_53 : decode cX3_told 53 = .ok (.getfield 10, 3) := by decide +kernel
theorem dX3_told_56 : decode cX3_told 56 = .ok (.getfield 92, 3) := by decide +kernel
theorem dX3_told_59 : decode cX3_told 59 = .ok (.ireturn, 1) := by decide +kernel
theorem dX3_told_60 : decode cX3_told 60 = .ok (.aload_n 0, 1) := by decide +kernel
theorem dX3_told_61 : decode cX3_told 61 = .ok (.getfield 10, 3) := by decide +kernel
theorem dX3_told_64 : decode cX3_told 64 = .ok (.getfield 59, 3) := by decide +kernel
theorem dX3_told_67 : decode cX3_told 67 = .ok (.ireturn, 1) := by decide +kernel
theorem dX3_told_68 : decode cX3_told 68 = .ok (.aload_n 0, 1) := by decide +kernel
theorem dX3_told_69 : decode cX3_told 69 = .ok (.getfield 10, 3) := by decide +kernel
theorem dX3_told_72 : decode cX3_told 72 = .ok (.getfield 67, 3) := by decide +kernel
theorem dX3_told_75 : decode cX3_told 75 = .ok (.ireturn, 1) := by decide +kernel
theorem dX3_told_76 : decode cX3_told 76 = .ok (.aload_n 0, 1) := by decide +kernel
theorem dX3_told_77 : decode cX3_told 77 = .ok (.getfield 10, 3) := by decide +kernel
theorem dX3_told_80 : decode cX3_told 80 = .ok (.getfield 95, 3) := by decide +kernel
theorem dX3_told_83 : decode cX3_told 83 = .ok (.ireturn, 1) := by decide +kernel
theorem dX3_told_84 : decode cX3_told 84 = .ok (.aload_n 0, 1) := by decide +kernel
theorem dX3_told_85 : decode cX3_told 85 = .ok (.getfield 10, 3) := by decide +kernel
theorem dX3_told_88 : decode cX3_told 88 = .ok (.invokevirtual 106, 3) := by decide +kernel
theorem dX3_told_91 : decode cX3_told 91 = .ok (.ireturn, 1) := by decide +kernel
theorem dX3_told_92 : decode cX3_told 92 = .ok (.aload_n 0, 1) := by decide +kernel
theorem dX3_told_93 : decode cX3_told 93 = .ok (.getfield 34, 3) := by decide +kernel
theorem dX3_told_96 : decode cX3_told 96 = .ok (.getfield 115, 3) := by decide +kernel
theorem dX3_told_99 : decode cX3_told 99 = .ok (.ireturn, 1) := by decide +kernel
theorem dX3_told_100 : decode cX3_told 100 = .ok (.aload_n 0, 1) := by decide +kernel
theorem dX3_told_101 : decode cX3_told 101 = .ok (.getfield 34, 3) := by decide +kernel
theorem dX3_told_104 : decode cX3_told 104 = .ok (.invokevirtual 118, 3) := by decide +kernel
theorem dX3_told_107 : decode cX3_told 107 = .ok (.ireturn, 1) := by decide +kernel
theorem dX3_told_108 : decode cX3_told 108 = .ok (.aload_n 0, 1) := by decide +kernel
theorem dX3_told_109 : decode cX3_told 109 = .ok (.getfield 34, 3) := by decide +kernel
theorem dX3_told_112 : decode cX3_told 112 = .ok (.invokevirtual 118, 3) := by decide +kernel
theorem dX3_told_115 : decode cX3_told 115 = .ok (.iconst 1, 1) := by decide +kernel
theorem dX3_told_116 : decode cX3_told 116 = .ok (.if_icmp .ne 7, 3) := by decide +kernel
theorem dX3_told_119 : decode cX3_told 119 = .ok (.iconst 1, 1) := by decide +kernel
theorem dX3_told_120 : decode cX3_told 120 = .ok (.goto 4, 3) := by decide +kernel
theorem dX3_told_123 : decode cX3_told 123 = .ok (.iconst 0, 1) := by decide +kernel
theorem dX3_told_124 : decode cX3_told 124 = .ok (.ireturn, 1) := by decide +kernel
theorem dX3_told_125 : decode cX3_told 125 = .ok (.aload_n 0, 1) := by decide +kernel
theorem dX3_told_126 : decode cX3_told 126 = .ok (.getfield 19, 3) := by decide +kernel
theorem dX3_told_129 : decode cX3_told 129 = .ok (.getfield 109, 3) := by decide +kernel
theorem dX3_told_132 : decode cX3_told 132 = .ok (.ireturn, 1) := by decide +kernel
theorem dX3_told_133 : decode cX3_told 133 = .ok (.ldc 48, 2) := by decide +kernel
theorem dX3_told_135 : decode cX3_told 135 = .ok (.ireturn, 1) := by decide +kernel
set_option maxRecDepth 20000 in
theorem ggX3_userOf_X3_isUser : GoodIn wsX3_userOf wsX3_isUser := goodIn_r _ [11, 5, 12, 20, 21, 22, 23, 24, 25, 26, 27, 32, 33, 34, 35, 36, 37] (by decide +kernel) (by decide +kernel)
set_option maxRecDepth 20000 in
theorem gX3_userOf_X3_isUser : GoodIn wsX3_userOf (wsV RX3 79 RX3 yX3_isUser wsX3_isUser) := goodIn_app (goodIn_of _ (by decide +kernel)) ggX3_userOf_X3_isUser
set_option maxRecDepth 20000 in
theorem ggX3_userOf_X0_sizeOfGroupOf : GoodIn wsX3_userOf wsX0_sizeOfGroupOf := goodIn_r _ [17, 18, 19, 28, 29, 30, 31] (by decide +kernel) (by decide +kernel)
set_option maxRecDepth 20000 in
theorem gX3_userOf_X0_sizeOfGroupOf : GoodIn wsX3_userOf (wsV RX3 124 RX0 yX0_sizeOfGroupOf wsX0_sizeOfGroupOf) := goodIn_app (goodIn_of _ (by decide +kernel)) ggX3_userOf_X0_sizeOfGroupOf
theorem dX3_userOf_0 : decode cX3_userOf 0 = .ok (.aload_n 0, 1) := by decide +kernel
theorem dX3_userOf_1 : decode cX3_userOf 1 = .ok (.iload_n 1, 1) := by decide +kernel
theorem dX3_userOf_2 : decode cX3_userOf 2 = .ok (.invokevirtual 79, 3) := by decide +kernel
theorem dX3_userOf_5 : decode cX3_userOf 5 = .ok (.ifCond .ne 6, 3) := by decide +kernel
theorem dX3_userOf_8 : decode cX3_userOf 8 = .ok (.ldc 83, 2) := by decide +kernel
theorem dX3_userOf_10 : decode cX3_userOf 10 = .ok (.ireturn, 1) := by decide +kernel
theorem dX3_userOf_11 : decode cX3_userOf 11 = .ok (.iload_n 2, 1) := by decide +kernel
theorem dX3_userOf_12 : decode cX3_userOf 12 = .ok (.ifCond .lt 9, 3) := by decide +kernel
theorem dX3_userOf_15 : decode cX3_userOf 15 = .ok (.iload_n 2, 1) := by decide +kernel
theorem dX3_userOf_16 : decode cX3_userOf 16 = .ok (.bipush 6, 2) := by decide +kernel
theorem dX3_userOf_18 : decode cX3_userOf 18 = .ok (.if_icmp .le 6, 3) := by decide +kernel
theorem dX3_userOf_21 : decode cX3_userOf 21 = .ok (.ldc 48, 2) := by decide +kernel
theorem dX3_userOf_23 : decode cX3_userOf 23 = .ok (.ireturn, 1) := by decide +kernel
theorem dX3_userOf_24 : decode cX3_userOf 24 = .ok (.iload_n 2, 1) := by decide +kernel
theorem dX3_userOf_25 : decode cX3_userOf 25 = .ok (.iconst 5, 1) := by decide +kernel
theorem dX3_userOf_26 : decode cX3_userOf 26 = .ok (.if_icmp .ne 13, 3) := by decide +kernel
theorem dX3_userOf_29 : decode cX3_userOf 29 = .ok (.aload_n 0, 1) := by decide +kernel
theorem dX3_userOf_30 : decode cX3_userOf 30 = .ok (.getfield 34, 3) := by decide +kernel
theorem dX3_userOf_33 : decode cX3_userOf 33 = .ok (.getfield 121, 3) := by decide +kernel
theorem dX3_userOf_36 : decode cX3_userOf 36 = .ok (.iload_n 1, 1) := by decide +kernel
theorem dX3_userOf_37 : decode cX3_userOf 37 = .ok (.iaload, 1) := by decide +kernel
theorem dX3_userOf_38 : decode cX3_userOf 38 = .ok (.ireturn, 1) := by decide +kernel
theorem dX3_userOf_39 : decode cX3_userOf 39 = .ok (.iload_n 2, 1) := by decide +kernel
theorem dX3_userOf_40 : decode cX3_userOf 40 = .ok (.bipush 6, 2) := by decide +kernel
theorem dX3_userOf_42 : decode cX3_userOf 42 = .ok (.if_icmp .ne 12, 3) := by decide +kernel
theorem dX3_userOf_45 : decode cX3_userOf 45 = .ok (.aload_n 0, 1) := by decide +kernel
theorem dX3_userOf_46 : decode cX3_userOf 46 = .ok (.getfield 34, 3) := by decide +kernel
theorem dX3_userOf_49 : decode cX3_userOf 49 = .ok (.iload_n 1, 1) := by decide +kernel
theorem dX3_userOf_50 : decode cX3_userOf 50 = .ok (.invokevirtual 124, 3) := by decide +kernel
theorem dX3_userOf_53 : decode cX3_userOf 53 = .ok (.ireturn, 1) := by decide +kernel
theorem dX3_userOf_54 : decode cX3_userOf 54 = .ok (.aload_n 0, 1) := by decide +kernel
theorem dX3_userOf_55 : decode cX3_userOf 55 = .ok (.getfield 10, 3) := by decide +kernel
theorem dX3_userOf_58 : decode cX3_userOf 58 = .ok (.getfield 128, 3) := by decide +kernel
theorem dX3_userOf_61 : decode cX3_userOf 61 = .ok (.iload_n 1, 1) := by decide +kernel
theorem dX3_userOf_62 : decode cX3_userOf 62 = .ok (.aaload, 1) := by decide +kernel
theorem dX3_userOf_63 : decode cX3_userOf 63 = .ok (.iload_n 2, 1) := by decide +kernel
theorem dX3_userOf_64 : decode cX3_userOf 64 = .ok (.iaload, 1) := by decide +kernel
theorem dX3_userOf_65 : decode cX3_userOf 65 = .ok (.ireturn, 1) := by decide +kernel
set_option maxRecDepth 20000 in
theorem ggX3_pointsAt_X3_isUser : GoodIn wsX3_pointsAt wsX3_isUser := goodIn_r _ [8, 3, 9, 35, 36, 37, 38, 39, 40, 41, 42, 43, 44, 45, 46, 47, 48] (by decide +kernel) (by decide +kernel)
set_option maxRecDepth 20000 in
theorem gX3_pointsAt_X3_isUser : GoodIn wsX3_pointsAt (wsV RX3 79 RX3 yX3_isUser wsX3_isUser) := goodIn_app (goodIn_of _ (by decide +kernel)) ggX3_pointsAt_X3_isUser
set_option maxRecDepth 20000 in
theorem ggX3_pointsAt_X3_isSlotAsked : GoodIn wsX3_pointsAt wsX3_isSlotAsked := goodIn_r _ [12] (by decide +kernel) (by decide +kernel)
set_option maxRecDepth 20000 in
theorem gX3_pointsAt_X3_isSlotAsked : GoodIn wsX3_pointsAt (va_wsS RX3 132 yX3_isSlotAsked wsX3_isSlotAsked) := goodIn_app (goodIn_of _ (by decide +kernel)) ggX3_pointsAt_X3_isSlotAsked
set_option maxRecDepth 20000 in
theorem ggX3_pointsAt_X2_clockOf : GoodIn wsX3_pointsAt wsX2_clockOf := goodIn_r _ [17, 18, 43, 44, 45, 46, 47, 48] (by decide +kernel) (by decide +kernel)
set_option maxRecDepth 20000 in
theorem gX3_pointsAt_X2_clockOf : GoodIn wsX3_pointsAt (wsV RX3 135 RX2 yX2_clockOf wsX2_clockOf) := goodIn_app (goodIn_of _ (by decide +kernel)) ggX3_pointsAt_X2_clockOf
set_option maxRecDepth 20000 in
theorem ggX3_pointsAt_X2_aim : GoodIn wsX3_pointsAt wsX2_aim := goodIn_r _ [22, 18, 23, 24, 25, 26, 16, 27, 28, 29, 30, 31, 32, 33, 34, 43, 44, 45, 46, 47, 48] (by decide +kernel) (by decide +kernel)
set_option maxRecDepth 20000 in
theorem gX3_pointsAt_X2_aim : GoodIn wsX3_pointsAt (wsV RX3 139 RX2 yX2_aim wsX2_aim) := goodIn_app (goodIn_of _ (by decide +kernel)) ggX3_pointsAt_X2_aim
theorem dX3_pointsAt_0 : decode cX3_pointsAt 0 = .ok (.aload_n 0, 1) := by decide +kernel
theorem dX3_pointsAt_1 : decode cX3_pointsAt 1 = .ok (.iload_n 1, 1) := by decide +kernel
theorem dX3_pointsAt_2 : decode cX3_pointsAt 2 = .ok (.invokevirtual 79, 3) := by decide +kernel
theorem dX3_pointsAt_5 : decode cX3_pointsAt 5 = .ok (.ifCond .ne 6, 3) := by decide +kernel
theorem dX3_pointsAt_8 : decode cX3_pointsAt 8 = .ok (.ldc 83, 2) := by decide +kernel
theorem dX3_pointsAt_10 : decode cX3_pointsAt 10 = .ok (.ireturn, 1) := by decide +kernel
theorem dX3_pointsAt_11 : decode cX3_pointsAt 11 = .ok (.iload_n 2, 1) := by decide +kernel
theorem dX3_pointsAt_12 : decode cX3_pointsAt 12 = .ok (.invokestatic 132, 3) := by decide +kernel
theorem dX3_pointsAt_15 : decode cX3_pointsAt 15 = .ok (.ifCond .ne 6, 3) := by decide +kernel
theorem dX3_pointsAt_18 : decode cX3_pointsAt 18 = .ok (.ldc 48, 2) := by decide +kernel
theorem dX3_pointsAt_20 : decode cX3_pointsAt 20 = .ok (.ireturn, 1) := by decide +kernel
theorem dX3_pointsAt_21 : decode cX3_pointsAt 21 = .ok (.aload_n 0, 1) := by decide +kernel
theorem dX3_pointsAt_22 : decode cX3_pointsAt 22 = .ok (.getfield 10, 3) := by decide +kernel
theorem dX3_pointsAt_25 : decode cX3_pointsAt 25 = .ok (.iload_n 1, 1) := by decide +kernel
theorem dX3_pointsAt_26 : decode cX3_pointsAt 26 = .ok (.iload_n 2, 1) := by decide +kernel
theorem dX3_pointsAt_27 : decode cX3_pointsAt 27 = .ok (.invokevirtual 135, 3) := by decide +kernel
theorem dX3_pointsAt_30 : decode cX3_pointsAt 30 = .ok (.istore_n 3, 1) := by decide +kernel
theorem dX3_pointsAt_31 : decode cX3_pointsAt 31 = .ok (.iload_n 3, 1) := by decide +kernel
theorem dX3_pointsAt_32 : decode cX3_pointsAt 32 = .ok (.ifCond .ge 7, 3) := by decide +kernel
theorem dX3_pointsAt_35 : decode cX3_pointsAt 35 = .ok (.iconst (-1), 1) := by decide +kernel
theorem dX3_pointsAt_36 : decode cX3_pointsAt 36 = .ok (.goto 12, 3) := by decide +kernel
theorem dX3_pointsAt_39 : decode cX3_pointsAt 39 = .ok (.aload_n 0, 1) := by decide +kernel
theorem dX3_pointsAt_40 : decode cX3_pointsAt 40 = .ok (.getfield 10, 3) := by decide +kernel
theorem dX3_pointsAt_43 : decode cX3_pointsAt 43 = .ok (.iload_n 1, 1) := by decide +kernel
theorem dX3_pointsAt_44 : decode cX3_pointsAt 44 = .ok (.iload_n 3, 1) := by decide +kernel
theorem dX3_pointsAt_45 : decode cX3_pointsAt 45 = .ok (.invokevirtual 139, 3) := by decide +kernel
theorem dX3_pointsAt_48 : decode cX3_pointsAt 48 = .ok (.ireturn, 1) := by decide +kernel
set_option maxRecDepth 20000 in
theorem ggX3_on_X3_isUser : GoodIn wsX3_on wsX3_isUser := goodIn_r _ [8, 2, 9, 62, 63, 64, 65, 66, 67, 68, 69, 70, 71, 72, 73, 74, 75] (by decide +kernel) (by decide +kernel)
set_option maxRecDepth 20000 in
theorem gX3_on_X3_isUser : GoodIn wsX3_on (wsV RX3 79 RX3 yX3_isUser wsX3_isUser) := goodIn_app (goodIn_of _ (by decide +kernel)) ggX3_on_X3_isUser
set_option maxRecDepth 20000 in
theorem ggX3_on_X3_isSlotAsked : GoodIn wsX3_on wsX3_isSlotAsked := goodIn_r _ [12] (by decide +kernel) (by decide +kernel)
set_option maxRecDepth 20000 in
theorem gX3_on_X3_isSlotAsked : GoodIn wsX3_on (va_wsS RX3 132 yX3_isSlotAsked wsX3_isSlotAsked) := goodIn_app (goodIn_of _ (by decide +kernel)) ggX3_on_X3_isSlotAsked
set_option maxRecDepth 20000 in
theorem ggX3_on_X2_place : GoodIn wsX3_on wsX2_place := goodIn_r _ [17, 18, 19, 20, 16, 21, 22, 23, 24, 25, 26, 27, 28, 29, 30, 31, 32, 33, 34, 35, 36, 37, 38, 39, 40, 41, 42, 43, 44, 45, 46, 47, 48, 49, 50, 51, 52, 53, 54, 55, 56, 57, 58, 59, 60, 61, 70, 71, 72, 73, 74, 75] (by decide +kernel) (by decide +kernel)
set_option maxRecDepth 20000 in
theorem gX3_on_X2_place : GoodIn wsX3_on (wsV RX3 142 RX2 yX2_place wsX2_place) := goodIn_app (goodIn_of _ (by decide +kernel)) ggX3_on_X2_place
theorem dX3_on_0 : decode cX3_on 0 = .ok (.aload_n 0, 1) := by decide +kernel
theorem dX3_on_1 : decode cX3_on 1 = .ok (.iload_n 1, 1) := by decide +kernel
theorem dX3_on_2 : decode cX3_on 2 = .ok (.invokevirtual 79, 3) := by decide +kernel
theorem dX3_on_5 : decode cX3_on 5 = .ok (.ifCond .ne 6, 3) := by decide +kernel
theorem dX3_on_8 : decode cX3_on 8 = .ok (.ldc 83, 2) := by decide +kernel
theorem dX3_on_10 : decode cX3_on 10 = .ok (.ireturn, 1) := by decide +kernel
theorem dX3_on_11 : decode cX3_on 11 = .ok (.iload_n 2, 1) := by decide +kernel
theorem dX3_on_12 : decode cX3_on 12 = .ok (.invokestatic 132, 3) := by decide +kernel
theorem dX3_on_15 : decode cX3_on 15 = .ok (.ifCond .eq 15, 3) := by decide +kernel
theorem dX3_on_18 : decode cX3_on 18 = .ok (.aload_n 0, 1) := by decide +kernel
theorem dX3_on_19 : decode cX3_on 19 = .ok (.getfield 10, 3) := by decide +kernel
theorem dX3_on_22 : decode cX3_on 22 = .ok (.iload_n 1, 1) := by decide +kernel
theorem dX3_on_23 : decode cX3_on 23 = .ok (.iload_n 2, 1) := by decide +kernel
theorem dX3_on_24 : decode cX3_on 24 = .ok (.invokevirtual 142, 3) := by decide +kernel
theorem dX3_on_27 : decode cX3_on 27 = .ok (.goto 5, 3) := by decide +kernel
theorem dX3_on_30 : decode cX3_on 30 = .ok (.ldc 48, 2) := by decide +kernel
theorem dX3_on_32 : decode cX3_on 32 = .ok (.ireturn, 1) := by decide +kernel
set_option maxRecDepth 20000 in
theorem ggX3_why_X3_isUser : GoodIn wsX3_why wsX3_isUser := goodIn_r _ [8, 2, 9, 62, 63, 64, 65, 66, 67, 68, 69, 70, 71, 72, 73, 74, 75] (by decide +kernel) (by decide +kernel)
set_option maxRecDepth 20000 in
theorem gX3_why_X3_isUser : GoodIn wsX3_why (wsV RX3 79 RX3 yX3_isUser wsX3_isUser) := goodIn_app (goodIn_of _ (by decide +kernel)) ggX3_why_X3_isUser
set_option maxRecDepth 20000 in
theorem ggX3_why_X3_isSlotAsked : GoodIn wsX3_why wsX3_isSlotAsked := goodIn_r _ [12] (by decide +kernel) (by decide +kernel)
set_option maxRecDepth 20000 in
theorem gX3_why_X3_isSlotAsked : GoodIn wsX3_why (va_wsS RX3 132 yX3_isSlotAsked wsX3_isSlotAsked) := goodIn_app (goodIn_of _ (by decide +kernel)) ggX3_why_X3_isSlotAsked
set_option maxRecDepth 20000 in
theorem ggX3_why_X2_whyNowhere : GoodIn wsX3_why wsX2_whyNowhere := goodIn_r _ [17, 18, 19, 20, 16, 21, 22, 23, 24, 25, 26, 27, 28, 29, 30, 31, 32, 33, 34, 35, 36, 37, 38, 39, 40, 41, 42, 43, 44, 45, 46, 47, 48, 49, 50, 51, 52, 53, 54, 55, 56, 57, 58, 59, 60, 61, 70, 71, 72, 73, 74, 75] (by decide +kernel) (by decide +kernel)
set_option maxRecDepth 20000 in
theorem gX3_why_X2_whyNowhere : GoodIn wsX3_why (wsV RX3 145 RX2 yX2_whyNowhere wsX2_whyNowhere) := goodIn_app (goodIn_of _ (by decide +kernel)) ggX3_why_X2_whyNowhere
theorem dX3_why_0 : decode cX3_why 0 = .ok (.aload_n 0, 1) := by decide +kernel
theorem dX3_why_1 : decode cX3_why 1 = .ok (.iload_n 1, 1) := by decide +kernel
theorem dX3_why_2 : decode cX3_why 2 = .ok (.invokevirtual 79, 3) := by decide +kernel
theorem dX3_why_5 : decode cX3_why 5 = .ok (.ifCond .ne 6, 3) := by decide +kernel
theorem dX3_why_8 : decode cX3_why 8 = .ok (.ldc 83, 2) := by decide +kernel
theorem dX3_why_10 : decode cX3_why 10 = .ok (.ireturn, 1) := by decide +kernel
theorem dX3_why_11 : decode cX3_why 11 = .ok (.iload_n 2, 1) := by decide +kernel
theorem dX3_why_12 : decode cX3_why 12 = .ok (.invokestatic 132, 3) := by decide +kernel
theorem dX3_why_15 : decode cX3_why 15 = .ok (.ifCond .eq 15, 3) := by decide +kernel
theorem dX3_why_18 : decode cX3_why 18 = .ok (.aload_n 0, 1) := by decide +kernel
theorem dX3_why_19 : decode cX3_why 19 = .ok (.getfield 10, 3) := by decide +kernel
theorem dX3_why_22 : decode cX3_why 22 = .ok (.iload_n 1, 1) := by decide +kernel
theorem dX3_why_23 : decode cX3_why 23 = .ok (.iload_n 2, 1) := by decide +kernel
theorem dX3_why_24 : decode cX3_why 24 = .ok (.invokevirtual 145, 3) := by decide +kernel
theorem dX3_why_27 : decode cX3_why 27 = .ok (.goto 5, 3) := by decide +kernel
theorem dX3_why_30 : decode cX3_why 30 = .ok (.ldc 48, 2) := by decide +kernel
theorem dX3_why_32 : decode cX3_why 32 = .ok (.ireturn, 1) := by decide +kernel
set_option maxRecDepth 20000 in
theorem ggX3_first_X3_areTwoUsers : GoodIn wsX3_first wsX3_areTwoUsers := goodIn_r _ [7, 8, 9, 10, 6, 11, 2, 12, 66, 67, 68, 69, 70, 71, 72, 73, 74, 75, 76, 77, 78, 79] (by decide +kernel) (by decide +kernel)
set_option maxRecDepth 20000 in
theorem gX3_first_X3_areTwoUsers : GoodIn wsX3_first (wsV RX3 148 RX3 yX3_areTwoUsers wsX3_areTwoUsers) := goodIn_app (goodIn_of _ (by decide +kernel)) ggX3_first_X3_areTwoUsers
set_option maxRecDepth 20000 in
theorem ggX3_first_X2_meet : GoodIn wsX3_first wsX2_meet := goodIn_r _ [17, 18, 19, 20, 16, 21, 22, 23, 24, 25, 26, 27, 28, 29, 30, 31, 32, 33, 34, 35, 36, 37, 38, 39, 40, 41, 42, 43, 44, 45, 46, 47, 48, 49, 50, 51, 52, 53, 54, 55, 56, 57, 58, 59, 60, 61, 62, 63, 64, 65, 74, 75, 76, 77, 78, 79] (by decide +kernel) (by decide +kernel)
set_option maxRecDepth 20000 in
theorem gX3_first_X2_meet : GoodIn wsX3_first (wsV RX3 151 RX2 yX2_meet wsX2_meet) := goodIn_app (goodIn_of _ (by decide +kernel)) ggX3_first_X2_meet
theorem dX3_first_0 : decode cX3_first 0 = .ok (.aload_n 0, 1) := by decide +kernel
theorem dX3_first_1 : decode cX3_first 1 = .ok (.iload_n 1, 1) := by decide +kernel
theorem dX3_first_2 : decode cX3_first 2 = .ok (.iload_n 2, 1) := by decide +kernel
theorem dX3_first_3 : decode cX3_first 3 = .ok (.invokevirtual 148, 3) := by decide +kernel
theorem dX3_first_6 : decode cX3_first 6 = .ok (.ifCond .ne 6, 3) := by decide +kernel
theorem dX3_first_9 : decode cX3_first 9 = .ok (.ldc 83, 2) := by decide +kernel
theorem dX3_first_11 : decode cX3_first 11 = .ok (.ireturn, 1) := by decide +kernel
theorem dX3_first_12 : decode cX3_first 12 = .ok (.iconst 0, 1) := by decide +kernel
theorem dX3_first_13 : decode cX3_first 13 = .ok (.istore_n 3, 1) := by decide +kernel
theorem dX3_first_14 : decode cX3_first 14 = .ok (.iload_n 3, 1) := by decide +kernel
theorem dX3_first_15 : decode cX3_first 15 = .ok (.sipush 1500, 3) := by decide +kernel
theorem dX3_first_18 : decode cX3_first 18 = .ok (.if_icmp .ge 24, 3) := by decide +kernel
theorem dX3_first_21 : decode cX3_first 21 = .ok (.aload_n 0, 1) := by decide +kernel
theorem dX3_first_22 : decode cX3_first 22 = .ok (.getfield 10, 3) := by decide +kernel
theorem dX3_first_25 : decode cX3_first 25 = .ok (.iload_n 1, 1) := by decide +kernel
theorem dX3_first_26 : decode cX3_first 26 = .ok (.iload_n 2, 1) := by decide +kernel
theorem dX3_first_27 : decode cX3_first 27 = .ok (.iload_n 3, 1) := by decide +kernel
theorem dX3_first_28 : decode cX3_first 28 = .ok (.invokevirtual 151, 3) := by decide +kernel
theorem dX3_first_31 : decode cX3_first 31 = .ok (.ifCond .eq 5, 3) := by decide +kernel
theorem dX3_first_34 : decode cX3_first 34 = .ok (.iload_n 3, 1) := by decide +kernel
theorem dX3_first_35 : decode cX3_first 35 = .ok (.ireturn, 1) := by decide +kernel
theorem dX3_first_36 : decode cX3_first 36 = .ok (.iinc 3 1, 3) := by decide +kernel
theorem dX3_first_39 : decode cX3_first 39 = .ok (.goto (-25), 3) := by decide +kernel
theorem dX3_first_42 : decode cX3_first 42 = .ok (.iconst (-1), 1) := by decide +kernel
theorem dX3_first_43 : decode cX3_first 43 = .ok (.ireturn, 1) := by decide +kernel
set_option maxRecDepth 20000 in
theorem ggX3_worst_X3_areTwoUsers : GoodIn wsX3_worst wsX3_areTwoUsers := goodIn_r _ [7, 8, 9, 10, 6, 11, 12, 13, 67, 68, 69, 70, 71, 72, 73, 74, 75, 76, 77, 78, 79, 80] (by decide +kernel) (by decide +kernel)
set_option maxRecDepth 20000 in
theorem gX3_worst_X3_areTwoUsers : GoodIn wsX3_worst (wsV RX3 148 RX3 yX3_areTwoUsers wsX3_areTwoUsers) := goodIn_app (goodIn_of _ (by decide +kernel)) ggX3_worst_X3_areTwoUsers
set_option maxRecDepth 20000 in
theorem ggX3_worst_X3_isShift : GoodIn wsX3_worst wsX3_isShift := goodIn_r _ [16] (by decide +kernel) (by decide +kernel)
set_option maxRecDepth 20000 in
theorem gX3_worst_X3_isShift : GoodIn wsX3_worst (va_wsS RX3 155 yX3_isShift wsX3_isShift) := goodIn_app (goodIn_of _ (by decide +kernel)) ggX3_worst_X3_isShift
set_option maxRecDepth 20000 in
theorem ggX3_worst_X3_worstOfShifts : GoodIn wsX3_worst wsX3_worstOfShifts := goodIn_r _ [20, 21, 12, 22, 23, 24, 25, 26, 27, 28, 29, 30, 31, 32, 33, 34, 35, 36, 37, 38, 39, 40, 41, 42, 43, 44, 45, 46, 47, 48, 49, 50, 51, 52, 53, 54, 55, 56, 57, 58, 59, 60, 61, 62, 63, 64, 65, 6, 66, 67, 68, 69, 70, 71, 72, 73, 74, 75, 76, 77, 78, 79, 80] (by decide +kernel) (by decide +kernel)
set_option maxRecDepth 20000 in
theorem gX3_worst_X3_worstOfShifts : GoodIn wsX3_worst (wsV RX3 158 RX3 yX3_worstOfShifts wsX3_worstOfShifts) := goodIn_app (goodIn_of _ (by decide +kernel)) ggX3_worst_X3_worstOfShifts
theorem dX3_worst_0 : decode cX3_worst 0 = .ok (.aload_n 0, 1) := by decide +kernel
theorem dX3_worst_1 : decode cX3_worst 1 = .ok (.iload_n 1, 1) := by decide +kernel
theorem dX3_worst_2 : decode cX3_worst 2 = .ok (.iload_n 2, 1) := by decide +kernel
theorem dX3_worst_3 : decode cX3_worst 3 = .ok (.invokevirtual 148, 3) := by decide +kernel
theorem dX3_worst_6 : decode cX3_worst 6 = .ok (.ifCond .ne 6, 3) := by decide +kernel
theorem dX3_worst_9 : decode cX3_worst 9 = .ok (.ldc 83, 2) := by decide +kernel
theorem dX3_worst_11 : decode cX3_worst 11 = .ok (.ireturn, 1) := by decide +kernel
theorem dX3_worst_12 : decode cX3_worst 12 = .ok (.iload_n 3, 1) := by decide +kernel
theorem dX3_worst_13 : decode cX3_worst 13 = .ok (.invokestatic 155, 3) := by decide +kernel
theorem dX3_worst_16 : decode cX3_worst 16 = .ok (.ifCond .eq 13, 3) := by decide +kernel
theorem dX3_worst_19 : decode cX3_worst 19 = .ok (.aload_n 0, 1) := by decide +kernel
theorem dX3_worst_20 : decode cX3_worst 20 = .ok (.iload_n 1, 1) := by decide +kernel
theorem dX3_worst_21 : decode cX3_worst 21 = .ok (.iload_n 2, 1) := by decide +kernel
theorem dX3_worst_22 : decode cX3_worst 22 = .ok (.iload_n 3, 1) := by decide +kernel
theorem dX3_worst_23 : decode cX3_worst 23 = .ok (.invokevirtual 158, 3) := by decide +kernel
theorem dX3_worst_26 : decode cX3_worst 26 = .ok (.goto 5, 3) := by decide +kernel
theorem dX3_worst_29 : decode cX3_worst 29 = .ok (.ldc 48, 2) := by decide +kernel
theorem dX3_worst_31 : decode cX3_worst 31 = .ok (.ireturn, 1) := by decide +kernel
set_option maxRecDepth 20000 in
theorem ggX3_bound_X3_areTwoUsers : GoodIn wsX3_bound wsX3_areTwoUsers := goodIn_r _ [7, 8, 9, 10, 6, 11, 12, 13, 67, 68, 69, 70, 71, 72, 73, 74, 75, 76, 77, 78, 79, 80] (by decide +kernel) (by decide +kernel)
set_option maxRecDepth 20000 in
theorem gX3_bound_X3_areTwoUsers : GoodIn wsX3_bound (wsV RX3 148 RX3 yX3_areTwoUsers wsX3_areTwoUsers) := goodIn_app (goodIn_of _ (by decide +kernel)) ggX3_bound_X3_areTwoUsers
set_option maxRecDepth 20000 in
theorem ggX3_bound_X3_isShift : GoodIn wsX3_bound wsX3_isShift := goodIn_r _ [16] (by decide +kernel) (by decide +kernel)
set_option maxRecDepth 20000 in
theorem gX3_bound_X3_isShift : GoodIn wsX3_bound (va_wsS RX3 155 yX3_isShift wsX3_isShift) := goodIn_app (goodIn_of _ (by decide +kernel)) ggX3_bound_X3_isShift
set_option maxRecDepth 20000 in
theorem ggX3_bound_X3_worstOfShifts : GoodIn wsX3_bound wsX3_worstOfShifts := goodIn_r _ [20, 21, 12, 22, 23, 24, 25, 26, 27, 28, 29, 30, 31, 32, 33, 34, 35, 36, 37, 38, 39, 40, 41, 42, 43, 44, 45, 46, 47, 48, 49, 50, 51, 52, 53, 54, 55, 56, 57, 58, 59, 60, 61, 62, 63, 64, 65, 6, 66, 67, 68, 69, 70, 71, 72, 73, 74, 75, 76, 77, 78, 79, 80] (by decide +kernel) (by decide +kernel)
set_option maxRecDepth 20000 in
theorem gX3_bound_X3_worstOfShifts : GoodIn wsX3_bound (wsV RX3 158 RX3 yX3_worstOfShifts wsX3_worstOfShifts) := goodIn_app (goodIn_of _ (by decide +kernel)) ggX3_bound_X3_worstOfShifts
theorem dX3_bound_0 : decode cX3_bound 0 = .ok (.aload_n 0, 1) := by decide +kernel
theorem dX3_bound_1 : decode cX3_bound 1 = .ok (.iload_n 1, 1) := by decide +kernel
theorem dX3_bound_2 : decode cX3_bound 2 = .ok (.iload_n 2, 1) := by decide +kernel
theorem dX3_bound_3 : decode cX3_bound 3 = .ok (.invokevirtual 148, 3) := by decide +kernel
theorem dX3_bound_6 : decode cX3_bound 6 = .ok (.ifCond .ne 6, 3) := by decide +kernel
theorem dX3_bound_9 : decode cX3_bound 9 = .ok (.ldc 83, 2) := by decide +kernel
theorem dX3_bound_11 : decode cX3_bound 11 = .ok (.ireturn, 1) := by decide +kernel
theorem dX3_bound_12 : decode cX3_bound 12 = .ok (.iload_n 3, 1) := by decide +kernel
theorem dX3_bound_13 : decode cX3_bound 13 = .ok (.invokestatic 155, 3) := by decide +kernel
theorem dX3_bound_16 : decode cX3_bound 16 = .ok (.ifCond .eq 16, 3) := by decide +kernel
theorem dX3_bound_19 : decode cX3_bound 19 = .ok (.iload 4, 2) := by decide +kernel
theorem dX3_bound_21 : decode cX3_bound 21 = .ok (.ifCond .lt 11, 3) := by decide +kernel
theorem dX3_bound_24 : decode cX3_bound 24 = .ok (.iload 4, 2) := by decide +kernel
theorem dX3_bound_26 : decode cX3_bound 26 = .ok (.sipush 1500, 3) := by decide +kernel
theorem dX3_bound_29 : decode cX3_bound 29 = .ok (.if_icmp .le 6, 3) := by decide +kernel
theorem dX3_bound_32 : decode cX3_bound 32 = .ok (.ldc 48, 2) := by decide +kernel
theorem dX3_bound_34 : decode cX3_bound 34 = .ok (.ireturn, 1) := by decide +kernel
theorem dX3_bound_35 : decode cX3_bound 35 = .ok (.aload_n 0, 1) := by decide +kernel
theorem dX3_bound_36 : decode cX3_bound 36 = .ok (.iload_n 1, 1) := by decide +kernel
theorem dX3_bound_37 : decode cX3_bound 37 = .ok (.iload_n 2, 1) := by decide +kernel
theorem dX3_bound_38 : decode cX3_bound 38 = .ok (.iload_n 3, 1) := by decide +kernel
theorem dX3_bound_39 : decode cX3_bound 39 = .ok (.invokevirtual 158, 3) := by decide +kernel
theorem dX3_bound_42 : decode cX3_bound 42 = .ok (.iload 4, 2) := by decide +kernel
theorem dX3_bound_44 : decode cX3_bound 44 = .ok (.if_icmp .gt 7, 3) := by decide +kernel
theorem dX3_bound_47 : decode cX3_bound 47 = .ok (.iconst 1, 1) := by decide +kernel
theorem dX3_bound_48 : decode cX3_bound 48 = .ok (.goto 4, 3) := by decide +kernel
theorem dX3_bound_51 : decode cX3_bound 51 = .ok (.iconst 0, 1) := by decide +kernel
theorem dX3_bound_52 : decode cX3_bound 52 = .ok (.ireturn, 1) := by decide +kernel
set_option maxRecDepth 20000 in
theorem ggX3_together_X3_areTwoUsers : GoodIn wsX3_together wsX3_areTwoUsers := goodIn_r _ [8, 9, 10, 11, 7, 12, 3, 13, 67, 68, 69, 70, 71, 72, 73, 74, 75, 76, 77, 78, 79, 80] (by decide +kernel) (by decide +kernel)
set_option maxRecDepth 20000 in
theorem gX3_together_X3_areTwoUsers : GoodIn wsX3_together (wsV RX3 148 RX3 yX3_areTwoUsers wsX3_areTwoUsers) := goodIn_app (goodIn_of _ (by decide +kernel)) ggX3_together_X3_areTwoUsers
set_option maxRecDepth 20000 in
theorem ggX3_together_X2_meet : GoodIn wsX3_together wsX2_meet := goodIn_r _ [18, 19, 20, 21, 17, 22, 23, 24, 25, 26, 27, 28, 29, 30, 31, 32, 33, 34, 35, 36, 37, 38, 39, 40, 41, 42, 43, 44, 45, 46, 47, 48, 49, 50, 51, 52, 53, 54, 55, 56, 57, 58, 59, 60, 61, 62, 63, 64, 65, 66, 75, 76, 77, 78, 79, 80] (by decide +kernel) (by decide +kernel)
set_option maxRecDepth 20000 in
theorem gX3_together_X2_meet : GoodIn wsX3_together (wsV RX3 151 RX2 yX2_meet wsX2_meet) := goodIn_app (goodIn_of _ (by decide +kernel)) ggX3_together_X2_meet
theorem dX3_together_0 : decode cX3_together 0 = .ok (.aload_n 0, 1) := by decide +kernel
theorem dX3_together_1 : decode cX3_together 1 = .ok (.iload_n 1, 1) := by decide +kernel
theorem dX3_together_2 : decode cX3_together 2 = .ok (.iload_n 2, 1) := by decide +kernel
theorem dX3_together_3 : decode cX3_together 3 = .ok (.invokevirtual 148, 3) := by decide +kernel
theorem dX3_together_6 : decode cX3_together 6 = .ok (.ifCond .ne 6, 3) := by decide +kernel
theorem dX3_together_9 : decode cX3_together 9 = .ok (.ldc 83, 2) := by decide +kernel
theorem dX3_together_11 : decode cX3_together 11 = .ok (.ireturn, 1) := by decide +kernel
theorem dX3_together_12 : decode cX3_together 12 = .ok (.iload_n 3, 1) := by decide +kernel
theorem dX3_together_13 : decode cX3_together 13 = .ok (.ifCond .lt 10, 3) := by decide +kernel
theorem dX3_together_16 : decode cX3_together 16 = .ok (.iload_n 3, 1) := by decide +kernel
theorem dX3_together_17 : decode cX3_together 17 = .ok (.sipush 1500, 3) := by decide +kernel
theorem dX3_together_20 : decode cX3_together 20 = .ok (.if_icmp .le 6, 3) := by decide +kernel
theorem dX3_together_23 : decode cX3_together 23 = .ok (.ldc 48, 2) := by decide +kernel
theorem dX3_together_25 : decode cX3_together 25 = .ok (.ireturn, 1) := by decide +kernel
theorem dX3_together_26 : decode cX3_together 26 = .ok (.iconst 0, 1) := by decide +kernel
theorem dX3_together_27 : decode cX3_together 27 = .ok (.istore 4, 2) := by decide +kernel
theorem dX3_together_29 : decode cX3_together 29 = .ok (.iconst 0, 1) := by decide +kernel
theorem dX3_together_30 : decode cX3_together 30 = .ok (.istore 5, 2) := by decide +kernel
theorem dX3_together_32 : decode cX3_together 32 = .ok (.iload 5, 2) := by decide +kernel
theorem dX3_together_34 : decode cX3_together 34 = .ok (.iload_n 3, 1) := by decide +kernel
theorem dX3_together_35 : decode cX3_together 35 = .ok (.if_icmp .ge 26, 3) := by decide +kernel
theorem dX3_together_38 : decode cX3_together 38 = .ok (.aload_n 0, 1) := by decide +kernel
theorem dX3_together_39 : decode cX3_together 39 = .ok (.getfield 10, 3) := by decide +kernel
theorem dX3_together_42 : decode cX3_together 42 = .ok (.iload_n 1, 1) := by decide +kernel
theorem dX3_together_43 : decode cX3_together 43 = .ok (.iload_n 2, 1) := by decide +kernel
theorem dX3_together_44 : decode cX3_together 44 = .ok (.iload 5, 2) := by decide +kernel
theorem dX3_together_46 : decode cX3_together 46 = .ok (.invokevirtual 151, 3) := by decide +kernel
theorem dX3_together_49 : decode cX3_together 49 = .ok (.ifCond .eq 6, 3) := by decide +kernel
theorem dX3_together_52 : decode cX3_together 52 = .ok (.iinc 4 1, 3) := by decide +kernel
theorem dX3_together_55 : decode cX3_together 55 = .ok (.iinc 5 1, 3) := by decide +kernel
theorem dX3_together_58 : decode cX3_together 58 = .ok (.goto (-26), 3) := by decide +kernel
theorem dX3_together_61 : decode cX3_together 61 = .ok (.iload 4, 2) := by decide +kernel
theorem dX3_together_63 : decode cX3_together 63 = .ok (.ireturn, 1) := by decide +kernel
set_option maxRecDepth 20000 in
theorem ggX3_even_X3_isUser : GoodIn wsX3_even wsX3_isUser := goodIn_r _ [18, 3, 19, 60, 61, 62, 63, 64, 65, 66, 67, 68, 69, 70, 71, 72, 73] (by decide +kernel) (by decide +kernel)
set_option maxRecDepth 20000 in
theorem gX3_even_X3_isUser : GoodIn wsX3_even (wsV RX3 79 RX3 yX3_isUser wsX3_isUser) := goodIn_app (goodIn_of _ (by decide +kernel)) ggX3_even_X3_isUser
set_option maxRecDepth 20000 in
theorem ggX3_even_X3_countTimesOn : GoodIn wsX3_even wsX3_countTimesOn := goodIn_r _ [23, 6, 3, 24, 25, 26, 27, 28, 29, 30, 31, 32, 33, 34, 35, 36, 37, 38, 39, 40, 41, 42, 43, 44, 45, 46, 47, 48, 49, 50, 51, 52, 53, 54, 55, 56, 57, 58, 60, 61, 62, 63, 64, 65, 66, 67, 68, 69, 70, 71, 72, 73] (by decide +kernel) (by decide +kernel)
set_option maxRecDepth 20000 in
theorem gX3_even_X3_countTimesOn : GoodIn wsX3_even (wsV RX3 161 RX3 yX3_countTimesOn wsX3_countTimesOn) := goodIn_app (goodIn_of _ (by decide +kernel)) ggX3_even_X3_countTimesOn
set_option maxRecDepth 20000 in
theorem ggX3_even_X2_holds : GoodIn wsX3_even wsX2_holds := goodIn_r _ [48] (by decide +kernel) (by decide +kernel)
set_option maxRecDepth 20000 in
theorem gX3_even_X2_holds : GoodIn wsX3_even (va_wsS RX3 165 yX2_holds wsX2_holds) := goodIn_app (goodIn_of _ (by decide +kernel)) ggX3_even_X2_holds
theorem dX3_even_0 : decode cX3_even 0 = .ok (.aload_n 0, 1) := by decide +kernel
theorem dX3_even_1 : decode cX3_even 1 = .ok (.iload_n 1, 1) := by decide +kernel
theorem dX3_even_2 : decode cX3_even 2 = .ok (.invokevirtual 79, 3) := by decide +kernel
theorem dX3_even_5 : decode cX3_even 5 = .ok (.ifCond .ne 6, 3) := by decide +kernel
theorem dX3_even_8 : decode cX3_even 8 = .ok (.ldc 83, 2) := by decide +kernel
theorem dX3_even_10 : decode cX3_even 10 = .ok (.ireturn, 1) := by decide +kernel
theorem dX3_even_11 : decode cX3_even 11 = .ok (.iload_n 2, 1) := by decide +kernel
theorem dX3_even_12 : decode cX3_even 12 = .ok (.iconst 1, 1) := by decide +kernel
theorem dX3_even_13 : decode cX3_even 13 = .ok (.if_icmp .lt 10, 3) := by decide +kernel
theorem dX3_even_16 : decode cX3_even 16 = .ok (.iload_n 2, 1) := by decide +kernel
theorem dX3_even_17 : decode cX3_even 17 = .ok (.sipush 1500, 3) := by decide +kernel
theorem dX3_even_20 : decode cX3_even 20 = .ok (.if_icmp .le 6, 3) := by decide +kernel
theorem dX3_even_23 : decode cX3_even 23 = .ok (.ldc 48, 2) := by decide +kernel
theorem dX3_even_25 : decode cX3_even 25 = .ok (.ireturn, 1) := by decide +kernel
theorem dX3_even_26 : decode cX3_even 26 = .ok (.aload_n 0, 1) := by decide +kernel
theorem dX3_even_27 : decode cX3_even 27 = .ok (.getfield 10, 3) := by decide +kernel
theorem dX3_even_30 : decode cX3_even 30 = .ok (.getfield 128, 3) := by decide +kernel
theorem dX3_even_33 : decode cX3_even 33 = .ok (.iload_n 1, 1) := by decide +kernel
theorem dX3_even_34 : decode cX3_even 34 = .ok (.aaload, 1) := by decide +kernel
theorem dX3_even_35 : decode cX3_even 35 = .ok (.iconst 4, 1) := by decide +kernel
theorem dX3_even_36 : decode cX3_even 36 = .ok (.iaload, 1) := by decide +kernel
theorem dX3_even_37 : decode cX3_even 37 = .ok (.istore_n 3, 1) := by decide +kernel
theorem dX3_even_38 : decode cX3_even 38 = .ok (.iload_n 3, 1) := by decide +kernel
theorem dX3_even_39 : decode cX3_even 39 = .ok (.ifCond .ne 5, 3) := by decide +kernel
theorem dX3_even_42 : decode cX3_even 42 = .ok (.iconst 0, 1) := by decide +kernel
theorem dX3_even_43 : decode cX3_even 43 = .ok (.ireturn, 1) := by decide +kernel
theorem dX3_even_44 : decode cX3_even 44 = .ok (.aload_n 0, 1) := by decide +kernel
theorem dX3_even_45 : decode cX3_even 45 = .ok (.iload_n 1, 1) := by decide +kernel
theorem dX3_even_46 : decode cX3_even 46 = .ok (.iload_n 2, 1) := by decide +kernel
theorem dX3_even_47 : decode cX3_even 47 = .ok (.invokevirtual 161, 3) := by decide +kernel
theorem dX3_even_50 : decode cX3_even 50 = .ok (.iconst 0, 1) := by decide +kernel
theorem dX3_even_51 : decode cX3_even 51 = .ok (.istore 4, 2) := by decide +kernel
theorem dX3_even_53 : decode cX3_even 53 = .ok (.iload_n 2, 1) := by decide +kernel
theorem dX3_even_54 : decode cX3_even 54 = .ok (.istore 5, 2) := by decide +kernel
theorem dX3_even_56 : decode cX3_even 56 = .ok (.iconst 0, 1) := by decide +kernel
theorem dX3_even_57 : decode cX3_even 57 = .ok (.istore 6, 2) := by decide +kernel
theorem dX3_even_59 : decode cX3_even 59 = .ok (.iload 6, 2) := by decide +kernel
theorem dX3_even_61 : decode cX3_even 61 = .ok (.aload_n 0, 1) := by decide +kernel
theorem dX3_even_62 : decode cX3_even 62 = .ok (.getfield 10, 3) := by decide +kernel
theorem dX3_even_65 : decode cX3_even 65 = .ok (.getfield 92, 3) := by decide +kernel
theorem dX3_even_68 : decode cX3_even 68 = .ok (.if_icmp .ge 46, 3) := by decide +kernel
theorem dX3_even_71 : decode cX3_even 71 = .ok (.iload_n 3, 1) := by decide +kernel
theorem dX3_even_72 : decode cX3_even 72 = .ok (.iload 6, 2) := by decide +kernel
theorem dX3_even_74 : decode cX3_even 74 = .ok (.invokestatic 165, 3) := by decide +kernel
theorem dX3_even_77 : decode cX3_even 77 = .ok (.ifCond .eq 31, 3) := by decide +kernel
theorem dX3_even_80 : decode cX3_even 80 = .ok (.iload 4, 2) := by decide +kernel
theorem dX3_even_82 : decode cX3_even 82 = .ok (.aload_n 0, 1) := by decide +kernel
theorem dX3_even_83 : decode cX3_even 83 = .ok (.getfield 45, 3) := by decide +kernel
theorem dX3_even_86 : decode cX3_even 86 = .ok (.iload 6, 2) := by decide +kernel
theorem dX3_even_88 : decode cX3_even 88 = .ok (.iaload, 1) := by decide +kernel
theorem dX3_even_89 : decode cX3_even 89 = .ok (.invokestatic 168, 3) := by decide +kernel
theorem dX3_even_92 : decode cX3_even 92 = .ok (.istore 4, 2) := by decide +kernel
theorem dX3_even_94 : decode cX3_even 94 = .ok (.iload 5, 2) := by decide +kernel
theorem dX3_even_96 : decode cX3_even 96 = .ok (.aload_n 0, 1) := by decide +kernel
theorem dX3_even_97 : decode cX3_even 97 = .ok (.getfield 45, 3) := by decide +kernel
theorem dX3_even_100 : decode cX3_even 100 = .ok (.iload 6, 2) := by decide +kernel
theorem dX3_even_102 : decode cX3_even 102 = .ok (.iaload, 1) := by decide +kernel
theorem dX3_even_103 : decode cX3_even 103 = .ok (.invokestatic 173, 3) := by decide +kernel
theorem dX3_even_106 : decode cX3_even 106 = .ok (.istore 5, 2) := by decide +kernel
theorem dX3_even_108 : decode cX3_even 108 = .ok (.iinc 6 1, 3) := by decide +kernel
theorem dX3_even_111 : decode cX3_even 111 = .ok (.goto (-52), 3) := by decide +kernel
theorem dX3_even_114 : decode cX3_even 114 = .ok (.iload 4, 2) := by decide +kernel
theorem dX3_even_116 : decode cX3_even 116 = .ok (.iload 5, 2) := by decide +kernel
theorem dX3_even_118 : decode cX3_even 118 = .ok (.isub, 1) := by decide +kernel
theorem dX3_even_119 : decode cX3_even 119 = .ok (.ireturn, 1) := by decide +kernel
set_option maxRecDepth 20000 in
theorem ggX3_run_X0_runSlot : GoodIn wsX3_run wsX0_runSlot := goodIn_r _ [12, 13, 14, 15, 16, 17, 18, 19, 20, 21, 22, 23, 24, 25, 26, 27, 28, 29, 30, 31, 32, 33, 34, 35, 36, 37, 38, 39, 40, 41, 42, 43, 44, 45, 46, 47, 48, 49, 50, 51, 52, 53, 54, 55, 56, 57, 58, 59, 60, 61, 62, 63, 64, 65, 66, 67, 68, 11, 69, 70, 71, 72, 73, 92, 93, 94, 95, 86, 87, 88, 89, 90, 91] (by decide +kernel) (by decide +kernel)
set_option maxRecDepth 20000 in
theorem gX3_run_X0_runSlot : GoodIn wsX3_run (wsV RX3 176 RX0 yX0_runSlot wsX0_runSlot) := goodIn_app (goodIn_of _ (by decide +kernel)) ggX3_run_X0_runSlot
set_option maxRecDepth 20000 in
theorem ggX3_run_X0_howMany : GoodIn wsX3_run wsX0_howMany := goodIn_r _ [77, 14, 15, 92, 93, 94, 95] (by decide +kernel) (by decide +kernel)
set_option maxRecDepth 20000 in
theorem gX3_run_X0_howMany : GoodIn wsX3_run (wsV RX3 118 RX0 yX0_howMany wsX0_howMany) := goodIn_app (goodIn_of _ (by decide +kernel)) ggX3_run_X0_howMany
theorem dX3_run_0 : decode cX3_run 0 = .ok (.iload_n 1, 1) := by decide +kernel
theorem dX3_run_1 : decode cX3_run 1 = .ok (.iconst 1, 1) := by decide +kernel
theorem dX3_run_2 : decode cX3_run 2 = .ok (.if_icmp .lt 10, 3) := by decide +kernel
theorem dX3_run_5 : decode cX3_run 5 = .ok (.iload_n 1, 1) := by decide +kernel
theorem dX3_run_6 : decode cX3_run 6 = .ok (.sipush 200, 3) := by decide +kernel
theorem dX3_run_9 : decode cX3_run 9 = .ok (.if_icmp .le 6, 3) := by decide +kernel
theorem dX3_run_12 : decode cX3_run 12 = .ok (.ldc 48, 2) := by decide +kernel
theorem dX3_run_14 : decode cX3_run 14 = .ok (.ireturn, 1) := by decide +kernel
theorem dX3_run_15 : decode cX3_run 15 = .ok (.aload_n 0, 1) := by decide +kernel
theorem dX3_run_16 : decode cX3_run 16 = .ok (.getfield 10, 3) := by decide +kernel
theorem dX3_run_19 : decode cX3_run 19 = .ok (.getfield 67, 3) := by decide +kernel
theorem dX3_run_22 : decode cX3_run 22 = .ok (.ifCond .ne 6, 3) := by decide +kernel
theorem dX3_run_25 : decode cX3_run 25 = .ok (.ldc 102, 2) := by decide +kernel
theorem dX3_run_27 : decode cX3_run 27 = .ok (.ireturn, 1) := by decide +kernel
theorem dX3_run_28 : decode cX3_run 28 = .ok (.aload_n 0, 1) := by decide +kernel
theorem dX3_run_29 : decode cX3_run 29 = .ok (.getfield 34, 3) := by decide +kernel
theorem dX3_run_32 : decode cX3_run 32 = .ok (.getfield 115, 3) := by decide +kernel
theorem dX3_run_35 : decode cX3_run 35 = .ok (.sipush 3000, 3) := by decide +kernel
theorem dX3_run_38 : decode cX3_run 38 = .ok (.if_icmp .lt 6, 3) := by decide +kernel
theorem dX3_run_41 : decode cX3_run 41 = .ok (.ldc 70, 2) := by decide +kernel
theorem dX3_run_43 : decode cX3_run 43 = .ok (.ireturn, 1) := by decide +kernel
theorem dX3_run_44 : decode cX3_run 44 = .ok (.iconst 0, 1) := by decide +kernel
theorem dX3_run_45 : decode cX3_run 45 = .ok (.istore_n 2, 1) := by decide +kernel
theorem dX3_run_46 : decode cX3_run 46 = .ok (.iload_n 2, 1) := by decide +kernel
theorem dX3_run_47 : decode cX3_run 47 = .ok (.iload_n 1, 1) := by decide +kernel
theorem dX3_run_48 : decode cX3_run 48 = .ok (.if_icmp .ge 33, 3) := by decide +kernel
theorem dX3_run_51 : decode cX3_run 51 = .ok (.aload_n 0, 1) := by decide +kernel
theorem dX3_run_52 : decode cX3_run 52 = .ok (.getfield 34, 3) := by decide +kernel
theorem dX3_run_55 : decode cX3_run 55 = .ok (.getfield 115, 3) := by decide +kernel
theorem dX3_run_58 : decode cX3_run 58 = .ok (.sipush 3000, 3) := by decide +kernel
theorem dX3_run_61 : decode cX3_run 61 = .ok (.if_icmp .ge 20, 3) := by decide +kernel
theorem dX3_run_64 : decode cX3_run 64 = .ok (.aload_n 0, 1) := by decide +kernel
theorem dX3_run_65 : decode cX3_run 65 = .ok (.getfield 34, 3) := by decide +kernel
theorem dX3_run_68 : decode cX3_run 68 = .ok (.aload_n 0, 1) := by decide +kernel
theorem dX3_run_69 : decode cX3_run 69 = .ok (.getfield 10, 3) := by decide +kernel
theorem dX3_run_72 : decode cX3_run 72 = .ok (.invokevirtual 176, 3) := by decide +kernel
theorem dX3_run_75 : decode cX3_run 75 = .ok (.iinc 2 1, 3) := by decide +kernel
theorem dX3_run_78 : decode cX3_run 78 = .ok (.goto (-32), 3) := by decide +kernel
theorem dX3_run_81 : decode cX3_run 81 = .ok (.aload_n 0, 1) := by decide +kernel
theorem dX3_run_82 : decode cX3_run 82 = .ok (.getfield 34, 3) := by decide +kernel
theorem dX3_run_85 : decode cX3_run 85 = .ok (.invokevirtual 118, 3) := by decide +kernel
theorem dX3_run_88 : decode cX3_run 88 = .ok (.ireturn, 1) := by decide +kernel
set_option maxRecDepth 20000 in
theorem ggX3_merge_X0_howMany : GoodIn wsX3_merge wsX0_howMany := goodIn_r _ [10, 11, 12, 90, 91, 92, 93] (by decide +kernel) (by decide +kernel)
set_option maxRecDepth 20000 in
theorem gX3_merge_X0_howMany : GoodIn wsX3_merge (wsV RX3 118 RX0 yX0_howMany wsX0_howMany) := goodIn_app (goodIn_of _ (by decide +kernel)) ggX3_merge_X0_howMany
set_option maxRecDepth 20000 in
theorem ggX3_merge_X0_runSlot : GoodIn wsX3_merge wsX0_runSlot := goodIn_r _ [16, 17, 11, 12, 18, 19, 20, 21, 22, 23, 24, 25, 26, 27, 28, 29, 30, 31, 32, 33, 34, 35, 36, 37, 38, 39, 40, 41, 42, 43, 44, 45, 46, 47, 48, 49, 50, 51, 52, 53, 54, 55, 56, 57, 58, 59, 60, 61, 62, 63, 64, 65, 66, 67, 68, 69, 70, 9, 71, 72, 73, 74, 75, 90, 91, 92, 93, 84, 85, 86, 87, 88, 89] (by decide +kernel) (by decide +kernel)
set_option maxRecDepth 20000 in
theorem gX3_merge_X0_runSlot : GoodIn wsX3_merge (wsV RX3 176 RX0 yX0_runSlot wsX0_runSlot) := goodIn_app (goodIn_of _ (by decide +kernel)) ggX3_merge_X0_runSlot
theorem dX3_merge_0 : decode cX3_merge 0 = .ok (.aload_n 0, 1) := by decide +kernel
theorem dX3_merge_1 : decode cX3_merge 1 = .ok (.getfield 10, 3) := by decide +kernel
theorem dX3_merge_4 : decode cX3_merge 4 = .ok (.getfield 67, 3) := by decide +kernel
theorem dX3_merge_7 : decode cX3_merge 7 = .ok (.ifCond .ne 6, 3) := by decide +kernel
theorem dX3_merge_10 : decode cX3_merge 10 = .ok (.ldc 102, 2) := by decide +kernel
theorem dX3_merge_12 : decode cX3_merge 12 = .ok (.ireturn, 1) := by decide +kernel
theorem dX3_merge_13 : decode cX3_merge 13 = .ok (.iconst 0, 1) := by decide +kernel
theorem dX3_merge_14 : decode cX3_merge 14 = .ok (.istore_n 1, 1) := by decide +kernel
theorem dX3_merge_15 : decode cX3_merge 15 = .ok (.iload_n 1, 1) := by decide +kernel
theorem dX3_merge_16 : decode cX3_merge 16 = .ok (.sipush 1500, 3) := by decide +kernel
theorem dX3_merge_19 : decode cX3_merge 19 = .ok (.if_icmp .ge 44, 3) := by decide +kernel
theorem dX3_merge_22 : decode cX3_merge 22 = .ok (.aload_n 0, 1) := by decide +kernel
theorem dX3_merge_23 : decode cX3_merge 23 = .ok (.getfield 34, 3) := by decide +kernel
theorem dX3_merge_26 : decode cX3_merge 26 = .ok (.getfield 115, 3) := by decide +kernel
theorem dX3_merge_29 : decode cX3_merge 29 = .ok (.sipush 3000, 3) := by decide +kernel
theorem dX3_merge_32 : decode cX3_merge 32 = .ok (.if_icmp .ge 31, 3) := by decide +kernel
theorem dX3_merge_35 : decode cX3_merge 35 = .ok (.aload_n 0, 1) := by decide +kernel
theorem dX3_merge_36 : decode cX3_merge 36 = .ok (.getfield 34, 3) := by decide +kernel
theorem dX3_merge_39 : decode cX3_merge 39 = .ok (.invokevirtual 118, 3) := by decide +kernel
theorem dX3_merge_42 : decode cX3_merge 42 = .ok (.iconst 1, 1) := by decide +kernel
theorem dX3_merge_43 : decode cX3_merge 43 = .ok (.if_icmp .le 20, 3) := by decide +kernel
theorem dX3_merge_46 : decode cX3_merge 46 = .ok (.aload_n 0, 1) := by decide +kernel
theorem dX3_merge_47 : decode cX3_merge 47 = .ok (.getfield 34, 3) := by decide +kernel
theorem dX3_merge_50 : decode cX3_merge 50 = .ok (.aload_n 0, 1) := by decide +kernel
theorem dX3_merge_51 : decode cX3_merge 51 = .ok (.getfield 10, 3) := by decide +kernel
theorem dX3_merge_54 : decode cX3_merge 54 = .ok (.invokevirtual 176, 3) := by decide +kernel
theorem dX3_merge_57 : decode cX3_merge 57 = .ok (.iinc 1 1, 3) := by decide +kernel
theorem dX3_merge_60 : decode cX3_merge 60 = .ok (.goto (-45), 3) := by decide +kernel
theorem dX3_merge_63 : decode cX3_merge 63 = .ok (.aload_n 0, 1) := by decide +kernel
theorem dX3_merge_64 : decode cX3_merge 64 = .ok (.getfield 34, 3) := by decide +kernel
theorem dX3_merge_67 : decode cX3_merge 67 = .ok (.getfield 115, 3) := by decide +kernel
theorem dX3_merge_70 : decode cX3_merge 70 = .ok (.ireturn, 1) := by decide +kernel
set_option maxRecDepth 20000 in
theorem ggX3_part_X0_begin : GoodIn wsX3_part wsX0_begin := goodIn_r _ [9, 10, 11, 12, 21, 22, 23, 24] (by decide +kernel) (by decide +kernel)
set_option maxRecDepth 20000 in
theorem gX3_part_X0_begin : GoodIn wsX3_part (wsV RX3 56 RX0 yX0_begin wsX0_begin) := goodIn_app (goodIn_of _ (by decide +kernel)) ggX3_part_X0_begin
theorem dX3_part_0 : decode cX3_part 0 = .ok (.aload_n 0, 1) := by decide +kernel
theorem dX3_part_1 : decode cX3_part 1 = .ok (.getfield 34, 3) := by decide +kernel
theorem dX3_part_4 : decode cX3_part 4 = .ok (.getfield 115, 3) := by decide +kernel
theorem dX3_part_7 : decode cX3_part 7 = .ok (.istore_n 1, 1) := by decide +kernel
theorem dX3_part_8 : decode cX3_part 8 = .ok (.aload_n 0, 1) := by decide +kernel
theorem dX3_part_9 : decode cX3_part 9 = .ok (.getfield 34, 3) := by decide +kernel
theorem dX3_part_12 : decode cX3_part 12 = .ok (.aload_n 0, 1) := by decide +kernel
theorem dX3_part_13 : decode cX3_part 13 = .ok (.getfield 10, 3) := by decide +kernel
theorem dX3_part_16 : decode cX3_part 16 = .ok (.getfield 67, 3) := by decide +kernel
theorem dX3_part_19 : decode cX3_part 19 = .ok (.invokevirtual 56, 3) := by decide +kernel
theorem dX3_part_22 : decode cX3_part 22 = .ok (.iload_n 1, 1) := by decide +kernel
theorem dX3_part_23 : decode cX3_part 23 = .ok (.ireturn, 1) := by decide +kernel
set_option maxRecDepth 20000 in
theorem ggX3_keep_X3_isImage : GoodIn wsX3_keep wsX3_isImage := goodIn_r _ [9] (by decide +kernel) (by decide +kernel)
set_option maxRecDepth 20000 in
theorem gX3_keep_X3_isImage : GoodIn wsX3_keep (va_wsS RX3 179 yX3_isImage wsX3_isImage) := goodIn_app (goodIn_of _ (by decide +kernel)) ggX3_keep_X3_isImage
set_option maxRecDepth 20000 in
theorem ggX3_keep_X2_become : GoodIn wsX3_keep wsX2_become := goodIn_r _ [14, 15, 16, 17, 18, 19, 20, 21, 22, 23, 24, 33, 34, 35, 36, 37, 38] (by decide +kernel) (by decide +kernel)
set_option maxRecDepth 20000 in
theorem gX3_keep_X2_become : GoodIn wsX3_keep (wsV RX3 182 RX2 yX2_become wsX2_become) := goodIn_app (goodIn_of _ (by decide +kernel)) ggX3_keep_X2_become
theorem dX3_keep_0 : decode cX3_keep 0 = .ok (.iload_n 1, 1) := by decide +kernel
theorem dX3_keep_1 : decode cX3_keep 1 = .ok (.invokestatic 179, 3) := by decide +kernel
theorem dX3_keep_4 : decode cX3_keep 4 = .ok (.ifCond .ne 6, 3) := by decide +kernel
theorem dX3_keep_7 : decode cX3_keep 7 = .ok (.ldc 83, 2) := by decide +kernel
theorem dX3_keep_9 : decode cX3_keep 9 = .ok (.ireturn, 1) := by decide +kernel
theorem dX3_keep_10 : decode cX3_keep 10 = .ok (.aload_n 0, 1) := by decide +kernel
theorem dX3_keep_11 : decode cX3_keep 11 = .ok (.getfield 23, 3) := by decide +kernel
theorem dX3_keep_14 : decode cX3_keep 14 = .ok (.iload_n 1, 1) := by decide +kernel
theorem dX3_keep_15 : decode cX3_keep 15 = .ok (.aaload, 1) := by decide +kernel
theorem dX3_keep_16 : decode cX3_keep 16 = .ok (.aload_n 0, 1) := by decide +kernel
theorem dX3_keep_17 : decode cX3_keep 17 = .ok (.getfield 10, 3) := by decide +kernel
theorem dX3_keep_20 : decode cX3_keep 20 = .ok (.invokevirtual 182, 3) := by decide +kernel
theorem dX3_keep_23 : decode cX3_keep 23 = .ok (.aload_n 0, 1) := by decide +kernel
theorem dX3_keep_24 : decode cX3_keep 24 = .ok (.getfield 27, 3) := by decide +kernel
theorem dX3_keep_27 : decode cX3_keep 27 = .ok (.iload_n 1, 1) := by decide +kernel
theorem dX3_keep_28 : decode cX3_keep 28 = .ok (.iconst 1, 1) := by decide +kernel
theorem dX3_keep_29 : decode cX3_keep 29 = .ok (.bastore, 1) := by decide +kernel
theorem dX3_keep_30 : decode cX3_keep 30 = .ok (.aload_n 0, 1) := by decide +kernel
theorem dX3_keep_31 : decode cX3_keep 31 = .ok (.getfield 10, 3) := by decide +kernel
theorem dX3_keep_34 : decode cX3_keep 34 = .ok (.getfield 67, 3) := by decide +kernel
theorem dX3_keep_37 : decode cX3_keep 37 = .ok (.ireturn, 1) := by decide +kernel
set_option maxRecDepth 20000 in
theorem ggX3_goBack_X3_isImage : GoodIn wsX3_goBack wsX3_isImage := goodIn_r _ [12] (by decide +kernel) (by decide +kernel)
set_option maxRecDepth 20000 in
theorem gX3_goBack_X3_isImage : GoodIn wsX3_goBack (va_wsS RX3 179 yX3_isImage wsX3_isImage) := goodIn_app (goodIn_of _ (by decide +kernel)) ggX3_goBack_X3_isImage
set_option maxRecDepth 20000 in
theorem ggX3_goBack_X2_become : GoodIn wsX3_goBack wsX2_become := goodIn_r _ [17, 18, 19, 20, 21, 22, 23, 24, 25, 26, 27, 51, 52, 53, 54, 55, 56] (by decide +kernel) (by decide +kernel)
set_option maxRecDepth 20000 in
theorem gX3_goBack_X2_become : GoodIn wsX3_goBack (wsV RX3 182 RX2 yX2_become wsX2_become) := goodIn_app (goodIn_of _ (by decide +kernel)) ggX3_goBack_X2_become
set_option maxRecDepth 20000 in
theorem ggX3_goBack_X1_forget : GoodIn wsX3_goBack wsX1_forget := goodIn_r _ [32, 33, 34, 57, 58, 59] (by decide +kernel) (by decide +kernel)
set_option maxRecDepth 20000 in
theorem gX3_goBack_X1_forget : GoodIn wsX3_goBack (wsV RX3 53 RX1 yX1_forget wsX1_forget) := goodIn_app (goodIn_of _ (by decide +kernel)) ggX3_goBack_X1_forget
set_option maxRecDepth 20000 in
theorem ggX3_goBack_X0_begin : GoodIn wsX3_goBack wsX0_begin := goodIn_r _ [39, 40, 41, 42, 60, 61, 62, 63] (by decide +kernel) (by decide +kernel)
set_option maxRecDepth 20000 in
theorem gX3_goBack_X0_begin : GoodIn wsX3_goBack (wsV RX3 56 RX0 yX0_begin wsX0_begin) := goodIn_app (goodIn_of _ (by decide +kernel)) ggX3_goBack_X0_begin
theorem dX3_goBack_0 : decode cX3_goBack 0 = .ok (.iload_n 1, 1) := by decide +kernel
theorem dX3_goBack_1 : decode cX3_goBack 1 = .ok (.invokestatic 179, 3) := by decide +kernel
theorem dX3_goBack_4 : decode cX3_goBack 4 = .ok (.ifCond .ne 6, 3) := by decide +kernel
theorem dX3_goBack_7 : decode cX3_goBack 7 = .ok (.ldc 83, 2) := by decide +kernel
theorem dX3_goBack_9 : decode cX3_goBack 9 = .ok (.ireturn, 1) := by decide +kernel
theorem dX3_goBack_10 : decode cX3_goBack 10 = .ok (.aload_n 0, 1) := by decide +kernel
theorem dX3_goBack_11 : decode cX3_goBack 11 = .ok (.getfield 27, 3) := by decide +kernel
theorem dX3_goBack_14 : decode cX3_goBack 14 = .ok (.iload_n 1, 1) := by decide +kernel
theorem dX3_goBack_15 : decode cX3_goBack 15 = .ok (.baload, 1) := by decide +kernel
theorem dX3_goBack_16 : decode cX3_goBack 16 = .ok (.ifCond .ne 6, 3) := by decide +kernel
theorem dX3_goBack_19 : decode cX3_goBack 19 = .ok (.ldc 102, 2) := by decide +kernel
theorem dX3_goBack_21 : decode cX3_goBack 21 = .ok (.ireturn, 1) := by decide +kernel
theorem dX3_goBack_22 : decode cX3_goBack 22 = .ok (.aload_n 0, 1) := by decide +kernel
theorem dX3_goBack_23 : decode cX3_goBack 23 = .ok (.getfield 10, 3) := by decide +kernel
theorem dX3_goBack_26 : decode cX3_goBack 26 = .ok (.aload_n 0, 1) := by decide +kernel
theorem dX3_goBack_27 : decode cX3_goBack 27 = .ok (.getfield 23, 3) := by decide +kernel
theorem dX3_goBack_30 : decode cX3_goBack 30 = .ok (.iload_n 1, 1) := by decide +kernel
theorem dX3_goBack_31 : decode cX3_goBack 31 = .ok (.aaload, 1) := by decide +kernel
theorem dX3_goBack_32 : decode cX3_goBack 32 = .ok (.invokevirtual 182, 3) := by decide +kernel
theorem dX3_goBack_35 : decode cX3_goBack 35 = .ok (.aload_n 0, 1) := by decide +kernel
theorem dX3_goBack_36 : decode cX3_goBack 36 = .ok (.getfield 19, 3) := by decide +kernel
theorem dX3_goBack_39 : decode cX3_goBack 39 = .ok (.invokevirtual 53, 3) := by decide +kernel
theorem dX3_goBack_42 : decode cX3_goBack 42 = .ok (.aload_n 0, 1) := by decide +kernel
theorem dX3_goBack_43 : decode cX3_goBack 43 = .ok (.getfield 34, 3) := by decide +kernel
theorem dX3_goBack_46 : decode cX3_goBack 46 = .ok (.aload_n 0, 1) := by decide +kernel
theorem dX3_goBack_47 : decode cX3_goBack 47 = .ok (.getfield 10, 3) := by decide +kernel
theorem dX3_goBack_50 : decode cX3_goBack 50 = .ok (.getfield 67, 3) := by decide +kernel
theorem dX3_goBack_53 : decode cX3_goBack 53 = .ok (.invokevirtual 56, 3) := by decide +kernel
theorem dX3_goBack_56 : decode cX3_goBack 56 = .ok (.aload_n 0, 1) := by decide +kernel
theorem dX3_goBack_57 : decode cX3_goBack 57 = .ok (.getfield 10, 3) := by decide +kernel
theorem dX3_goBack_60 : decode cX3_goBack 60 = .ok (.getfield 67, 3) := by decide +kernel
theorem dX3_goBack_63 : decode cX3_goBack 63 = .ok (.ireturn, 1) := by decide +kernel
theorem dX3_isUser_0 : decode cX3_isUser 0 = .ok (.iload_n 1, 1) := by decide +kernel
theorem dX3_isUser_1 : decode cX3_isUser 1 = .ok (.ifCond .lt 18, 3) := by decide +kernel
theorem dX3_isUser_4 : decode cX3_isUser 4 = .ok (.iload_n 1, 1) := by decide +kernel
theorem dX3_isUser_5 : decode cX3_isUser 5 = .ok (.aload_n 0, 1) := by decide +kernel
theorem dX3_isUser_6 : decode cX3_isUser 6 = .ok (.getfield 10, 3) := by decide +kernel
theorem dX3_isUser_9 : decode cX3_isUser 9 = .ok (.getfield 67, 3) := by decide +kernel
theorem dX3_isUser_12 : decode cX3_isUser 12 = .ok (.if_icmp .ge 7, 3) := by decide +kernel
theorem dX3_isUser_15 : decode cX3_isUser 15 = .ok (.iconst 1, 1) := by decide +kernel
theorem dX3_isUser_16 : decode cX3_isUser 16 = .ok (.goto 4, 3) := by decide +kernel
theorem dX3_isUser_19 : decode cX3_isUser 19 = .ok (.iconst 0, 1) := by decide +kernel
theorem dX3_isUser_20 : decode cX3_isUser 20 = .ok (.ireturn, 1) := by decide +kernel
set_option maxRecDepth 20000 in
theorem ggX3_areTwoUsers_X3_isUser : GoodIn wsX3_areTwoUsers wsX3_isUser := goodIn_r _ [5, 6, 7, 8, 9, 10, 11, 12, 13, 14, 15, 16, 17, 18, 19, 20, 21] (by decide +kernel) (by decide +kernel)
set_option maxRecDepth 20000 in
theorem gX3_areTwoUsers_X3_isUser : GoodIn wsX3_areTwoUsers (wsV RX3 79 RX3 yX3_isUser wsX3_isUser) := goodIn_app (goodIn_of _ (by decide +kernel)) ggX3_areTwoUsers_X3_isUser
theorem dX3_areTwoUsers_0 : decode cX3_areTwoUsers 0 = .ok (.aload_n 0, 1) := by decide +kernel
theorem dX3_areTwoUsers_1 : decode cX3_areTwoUsers 1 = .ok (.iload_n 1, 1) := by decide +kernel
theorem dX3_areTwoUsers_2 : decode cX3_areTwoUsers 2 = .ok (.invokevirtual 79, 3) := by decide +kernel
theorem dX3_areTwoUsers_5 : decode cX3_areTwoUsers 5 = .ok (.ifCond .eq 20, 3) := by decide +kernel
theorem dX3_areTwoUsers_8 : decode cX3_areTwoUsers 8 = .ok (.aload_n 0, 1) := by decide +kernel
theorem dX3_areTwoUsers_9 : decode cX3_areTwoUsers 9 = .ok (.iload_n 2, 1) := by decide +kernel
theorem dX3_areTwoUsers_10 : decode cX3_areTwoUsers 10 = .ok (.invokevirtual 79, 3) := by decide +kernel
theorem dX3_areTwoUsers_13 : decode cX3_areTwoUsers 13 = .ok (.ifCond .eq 12, 3) := by decide +kernel
theorem dX3_areTwoUsers_16 : decode cX3_areTwoUsers 16 = .ok (.iload_n 1, 1) := by decide +kernel
theorem dX3_areTwoUsers_17 : decode cX3_areTwoUsers 17 = .ok (.iload_n 2, 1) := by decide +kernel
theorem dX3_areTwoUsers_18 : decode cX3_areTwoUsers 18 = .ok (.if_icmp .eq 7, 3) := by decide +kernel
theorem dX3_areTwoUsers_21 : decode cX3_areTwoUsers 21 = .ok (.iconst 1, 1) := by decide +kernel
theorem dX3_areTwoUsers_22 : decode cX3_areTwoUsers 22 = .ok (.goto 4, 3) := by decide +kernel
theorem dX3_areTwoUsers_25 : decode cX3_areTwoUsers 25 = .ok (.iconst 0, 1) := by decide +kernel
theorem dX3_areTwoUsers_26 : decode cX3_areTwoUsers 26 = .ok (.ireturn, 1) := by decide +kernel
theorem dX3_isImage_0 : decode cX3_isImage 0 = .ok (.iload_n 0, 1) := by decide +kernel
theorem dX3_isImage_1 : decode cX3_isImage 1 = .ok (.ifCond .lt 12, 3) := by decide +kernel
theorem dX3_isImage_4 : decode cX3_isImage 4 = .ok (.iload_n 0, 1) := by decide +kernel
theorem dX3_isImage_5 : decode cX3_isImage 5 = .ok (.iconst 2, 1) := by decide +kernel
theorem dX3_isImage_6 : decode cX3_isImage 6 = .ok (.if_icmp .ge 7, 3) := by decide +kernel
theorem dX3_isImage_9 : decode cX3_isImage 9 = .ok (.iconst 1, 1) := by decide +kernel
theorem dX3_isImage_10 : decode cX3_isImage 10 = .ok (.goto 4, 3) := by decide +kernel
theorem dX3_isImage_13 : decode cX3_isImage 13 = .ok (.iconst 0, 1) := by decide +kernel
theorem dX3_isImage_14 : decode cX3_isImage 14 = .ok (.ireturn, 1) := by decide +kernel
theorem dX3_isSlotAsked_0 : decode cX3_isSlotAsked 0 = .ok (.iload_n 0, 1) := by decide +kernel
theorem dX3_isSlotAsked_1 : decode cX3_isSlotAsked 1 = .ok (.ifCond .lt 14, 3) := by decide +kernel
theorem dX3_isSlotAsked_4 : decode cX3_isSlotAsked 4 = .ok (.iload_n 0, 1) := by decide +kernel
theorem dX3_isSlotAsked_5 : decode cX3_isSlotAsked 5 = .ok (.sipush 3000, 3) := by decide +kernel
theorem dX3_isSlotAsked_8 : decode cX3_isSlotAsked 8 = .ok (.if_icmp .gt 7, 3) := by decide +kernel
theorem dX3_isSlotAsked_11 : decode cX3_isSlotAsked 11 = .ok (.iconst 1, 1) := by decide +kernel
theorem dX3_isSlotAsked_12 : decode cX3_isSlotAsked 12 = .ok (.goto 4, 3) := by decide +kernel
theorem dX3_isSlotAsked_15 : decode cX3_isSlotAsked 15 = .ok (.iconst 0, 1) := by decide +kernel
theorem dX3_isSlotAsked_16 : decode cX3_isSlotAsked 16 = .ok (.ireturn, 1) := by decide +kernel
theorem dX3_isShift_0 : decode cX3_isShift 0 = .ok (.iload_n 0, 1) := by decide +kernel
theorem dX3_isShift_1 : decode cX3_isShift 1 = .ok (.ifCond .lt 14, 3) := by decide +kernel
theorem dX3_isShift_4 : decode cX3_isShift 4 = .ok (.iload_n 0, 1) := by decide +kernel
theorem dX3_isShift_5 : decode cX3_isShift 5 = .ok (.sipush 200, 3) := by decide +kernel
theorem dX3_isShift_8 : decode cX3_isShift 8 = .ok (.if_icmp .gt 7, 3) := by decide +kernel
theorem dX3_isShift_11 : decode cX3_isShift 11 = .ok (.iconst 1, 1) := by decide +kernel
theorem dX3_isShift_12 : decode cX3_isShift 12 = .ok (.goto 4, 3) := by decide +kernel
theorem dX3_isShift_15 : decode cX3_isShift 15 = .ok (.iconst 0, 1) := by decide +kernel
theorem dX3_isShift_16 : decode cX3_isShift 16 = .ok (.ireturn, 1) := by decide +kernel
theorem dX3_mayHave_0 : decode cX3_mayHave 0 = .ok (.iload_n 0, 1) := by decide +kernel
theorem dX3_mayHave_1 : decode cX3_mayHave 1 = .ok (.ifCond .lt 25, 3) := by decide +kernel
theorem dX3_mayHave_4 : decode cX3_mayHave 4 = .ok (.iload_n 0, 1) := by decide +kernel
theorem dX3_mayHave_5 : decode cX3_mayHave 5 = .ok (.iconst 3, 1) := by decide +kernel
theorem dX3_mayHave_6 : decode cX3_mayHave 6 = .ok (.if_icmp .gt 20, 3) := by decide +kernel
theorem dX3_mayHave_9 : decode cX3_mayHave 9 = .ok (.iload_n 1, 1) := by decide +kernel
theorem dX3_mayHave_10 : decode cX3_mayHave 10 = .ok (.ifCond .lt 16, 3) := by decide +kernel
theorem dX3_mayHave_13 : decode cX3_mayHave 13 = .ok (.iload_n 1, 1) := by decide +kernel
theorem dX3_mayHave_14 : decode cX3_mayHave 14 = .ok (.getstatic 185, 3) := by decide +kernel
theorem dX3_mayHave_17 : decode cX3_mayHave 17 = .ok (.iload_n 0, 1) := by decide +kernel
theorem dX3_mayHave_18 : decode cX3_mayHave 18 = .ok (.iaload, 1) := by decide +kernel
theorem dX3_mayHave_19 : decode cX3_mayHave 19 = .ok (.if_icmp .gt 7, 3) := by decide +kernel
theorem dX3_mayHave_22 : decode cX3_mayHave 22 = .ok (.iconst 1, 1) := by decide +kernel
theorem dX3_mayHave_23 : decode cX3_mayHave 23 = .ok (.goto 4, 3) := by decide +kernel
theorem dX3_mayHave_26 : decode cX3_mayHave 26 = .ok (.iconst 0, 1) := by decide +kernel
theorem dX3_mayHave_27 : decode cX3_mayHave 27 = .ok (.ireturn, 1) := by decide +kernel
set_option maxRecDepth 20000 in
theorem ggX3_change_X1_remember : GoodIn wsX3_change wsX1_remember := goodIn_r _ [10, 11, 12, 13, 14, 15, 16, 17, 18, 19, 20, 21, 22, 23, 24, 25, 26, 27, 28, 29, 30, 31, 32, 55, 56, 57, 49, 50, 51, 52, 53, 54] (by decide +kernel) (by decide +kernel)
set_option maxRecDepth 20000 in
theorem gX3_change_X1_remember : GoodIn wsX3_change (wsV RX3 71 RX1 yX1_remember wsX1_remember) := goodIn_app (goodIn_of _ (by decide +kernel)) ggX3_change_X1_remember
set_option maxRecDepth 20000 in
theorem ggX3_change_X0_begin : GoodIn wsX3_change wsX0_begin := goodIn_r _ [37, 38, 39, 40, 58, 59, 60, 61] (by decide +kernel) (by decide +kernel)
set_option maxRecDepth 20000 in
theorem gX3_change_X0_begin : GoodIn wsX3_change (wsV RX3 56 RX0 yX0_begin wsX0_begin) := goodIn_app (goodIn_of _ (by decide +kernel)) ggX3_change_X0_begin
theorem dX3_change_0 : decode cX3_change 0 = .ok (.aload_n 0, 1) := by decide +kernel
theorem dX3_change_1 : decode cX3_change 1 = .ok (.getfield 19, 3) := by decide +kernel
theorem dX3_change_4 : decode cX3_change 4 = .ok (.aload_n 0, 1) := by decide +kernel
theorem dX3_change_5 : decode cX3_change 5 = .ok (.getfield 10, 3) := by decide +kernel
theorem dX3_change_8 : decode cX3_change 8 = .ok (.invokevirtual 71, 3) := by decide +kernel
theorem dX3_change_11 : decode cX3_change 11 = .ok (.aload_n 0, 1) := by decide +kernel
theorem dX3_change_12 : decode cX3_change 12 = .ok (.getfield 10, 3) := by decide +kernel
theorem dX3_change_15 : decode cX3_change 15 = .ok (.getfield 128, 3) := by decide +kernel
theorem dX3_change_18 : decode cX3_change 18 = .ok (.iload_n 1, 1) := by decide +kernel
theorem dX3_change_19 : decode cX3_change 19 = .ok (.aaload, 1) := by decide +kernel
theorem dX3_change_20 : decode cX3_change 20 = .ok (.iload_n 2, 1) := by decide +kernel
theorem dX3_change_21 : decode cX3_change 21 = .ok (.iaload, 1) := by decide +kernel
theorem dX3_change_22 : decode cX3_change 22 = .ok (.istore 4, 2) := by decide +kernel
theorem dX3_change_24 : decode cX3_change 24 = .ok (.aload_n 0, 1) := by decide +kernel
theorem dX3_change_25 : decode cX3_change 25 = .ok (.getfield 10, 3) := by decide +kernel
theorem dX3_change_28 : decode cX3_change 28 = .ok (.getfield 128, 3) := by decide +kernel
theorem dX3_change_31 : decode cX3_change 31 = .ok (.iload_n 1, 1) := by decide +kernel
theorem dX3_change_32 : decode cX3_change 32 = .ok (.aaload, 1) := by decide +kernel
theorem dX3_change_33 : decode cX3_change 33 = .ok (.iload_n 2, 1) := by decide +kernel
theorem dX3_change_34 : decode cX3_change 34 = .ok (.iload_n 3, 1) := by decide +kernel
theorem dX3_change_35 : decode cX3_change 35 = .ok (.iastore, 1) := by decide +kernel
theorem dX3_change_36 : decode cX3_change 36 = .ok (.aload_n 0, 1) := by decide +kernel
theorem dX3_change_37 : decode cX3_change 37 = .ok (.getfield 34, 3) := by decide +kernel
theorem dX3_change_40 : decode cX3_change 40 = .ok (.aload_n 0, 1) := by decide +kernel
theorem dX3_change_41 : decode cX3_change 41 = .ok (.getfield 10, 3) := by decide +kernel
theorem dX3_change_44 : decode cX3_change 44 = .ok (.getfield 67, 3) := by decide +kernel
theorem dX3_change_47 : decode cX3_change 47 = .ok (.invokevirtual 56, 3) := by decide +kernel
theorem dX3_change_50 : decode cX3_change 50 = .ok (.iload 4, 2) := by decide +kernel
theorem dX3_change_52 : decode cX3_change 52 = .ok (.ireturn, 1) := by decide +kernel
set_option maxRecDepth 20000 in
theorem ggX3_worstOfShifts_X2_placeByClock : GoodIn wsX3_worstOfShifts wsX2_placeByClock := goodIn_r _ [13, 14, 15, 16, 17, 12, 18, 19, 20, 21, 22, 23, 24, 25, 26, 27, 28, 29, 30, 31, 32, 33, 34, 35, 36, 37, 38, 39, 40, 41, 42, 43, 57, 58, 59, 60, 61, 62] (by decide +kernel) (by decide +kernel)
set_option maxRecDepth 20000 in
theorem gX3_worstOfShifts_X2_placeByClock : GoodIn wsX3_worstOfShifts (wsV RX3 188 RX2 yX2_placeByClock wsX2_placeByClock) := goodIn_app (goodIn_of _ (by decide +kernel)) ggX3_worstOfShifts_X2_placeByClock
set_option maxRecDepth 20000 in
theorem ggX3_worstOfShifts_X3_slotsToMeet : GoodIn wsX3_worstOfShifts wsX3_slotsToMeet := goodIn_r _ [48, 3, 1, 4, 49, 50, 51, 52, 53, 54, 55, 56] (by decide +kernel) (by decide +kernel)
set_option maxRecDepth 20000 in
theorem gX3_worstOfShifts_X3_slotsToMeet : GoodIn wsX3_worstOfShifts (wsV RX3 192 RX3 yX3_slotsToMeet wsX3_slotsToMeet) := goodIn_app (goodIn_of _ (by decide +kernel)) ggX3_worstOfShifts_X3_slotsToMeet
theorem dX3_worstOfShifts_0 : decode cX3_worstOfShifts 0 = .ok (.iconst 0, 1) := by decide +kernel
theorem dX3_worstOfShifts_1 : decode cX3_worstOfShifts 1 = .ok (.istore 4, 2) := by decide +kernel
theorem dX3_worstOfShifts_3 : decode cX3_worstOfShifts 3 = .ok (.iload 4, 2) := by decide +kernel
theorem dX3_worstOfShifts_5 : decode cX3_worstOfShifts 5 = .ok (.sipush 1500, 3) := by decide +kernel
theorem dX3_worstOfShifts_8 : decode cX3_worstOfShifts 8 = .ok (.iload_n 3, 1) := by decide +kernel
theorem dX3_worstOfShifts_9 : decode cX3_worstOfShifts 9 = .ok (.iadd, 1) := by decide +kernel
theorem dX3_worstOfShifts_10 : decode cX3_worstOfShifts 10 = .ok (.if_icmp .ge 26, 3) := by decide +kernel
theorem dX3_worstOfShifts_13 : decode cX3_worstOfShifts 13 = .ok (.aload_n 0, 1) := by decide +kernel
theorem dX3_worstOfShifts_14 : decode cX3_worstOfShifts 14 = .ok (.getfield 38, 3) := by decide +kernel
theorem dX3_worstOfShifts_17 : decode cX3_worstOfShifts 17 = .ok (.iload 4, 2) := by decide +kernel
theorem dX3_worstOfShifts_19 : decode cX3_worstOfShifts 19 = .ok (.aload_n 0, 1) := by decide +kernel
theorem dX3_worstOfShifts_20 : decode cX3_worstOfShifts 20 = .ok (.getfield 10, 3) := by decide +kernel
theorem dX3_worstOfShifts_23 : decode cX3_worstOfShifts 23 = .ok (.iload_n 1, 1) := by decide +kernel
theorem dX3_worstOfShifts_24 : decode cX3_worstOfShifts 24 = .ok (.iload 4, 2) := by decide +kernel
theorem dX3_worstOfShifts_26 : decode cX3_worstOfShifts 26 = .ok (.invokevirtual 188, 3) := by decide +kernel
theorem dX3_worstOfShifts_29 : decode cX3_worstOfShifts 29 = .ok (.iastore, 1) := by decide +kernel
theorem dX3_worstOfShifts_30 : decode cX3_worstOfShifts 30 = .ok (.iinc 4 1, 3) := by decide +kernel
theorem dX3_worstOfShifts_33 : decode cX3_worstOfShifts 33 = .ok (.goto (-30), 3) := by decide +kernel
theorem dX3_worstOfShifts_36 : decode cX3_worstOfShifts 36 = .ok (.iconst 0, 1) := by decide +kernel
theorem dX3_worstOfShifts_37 : decode cX3_worstOfShifts 37 = .ok (.istore 4, 2) := by decide +kernel
theorem dX3_worstOfShifts_39 : decode cX3_worstOfShifts 39 = .ok (.iload 4, 2) := by decide +kernel
theorem dX3_worstOfShifts_41 : decode cX3_worstOfShifts 41 = .ok (.sipush 1500, 3) := by decide +kernel
theorem dX3_worstOfShifts_44 : decode cX3_worstOfShifts 44 = .ok (.if_icmp .ge 26, 3) := by decide +kernel
theorem dX3_worstOfShifts_47 : decode cX3_worstOfShifts 47 = .ok (.aload_n 0, 1) := by decide +kernel
theorem dX3_worstOfShifts_48 : decode cX3_worstOfShifts 48 = .ok (.getfield 42, 3) := by decide +kernel
theorem dX3_worstOfShifts_51 : decode cX3_worstOfShifts 51 = .ok (.iload 4, 2) := by decide +kernel
theorem dX3_worstOfShifts_53 : decode cX3_worstOfShifts 53 = .ok (.aload_n 0, 1) := by decide +kernel
theorem dX3_worstOfShifts_54 : decode cX3_worstOfShifts 54 = .ok (.getfield 10, 3) := by decide +kernel
theorem dX3_worstOfShifts_57 : decode cX3_worstOfShifts 57 = .ok (.iload_n 2, 1) := by decide +kernel
theorem dX3_worstOfShifts_58 : decode cX3_worstOfShifts 58 = .ok (.iload 4, 2) := by decide +kernel
theorem dX3_worstOfShifts_60 : decode cX3_worstOfShifts 60 = .ok (.invokevirtual 188, 3) := by decide +kernel
theorem dX3_worstOfShifts_63 : decode cX3_worstOfShifts 63 = .ok (.iastore, 1) := by decide +kernel
theorem dX3_worstOfShifts_64 : decode cX3_worstOfShifts 64 = .ok (.iinc 4 1, 3) := by decide +kernel
theorem dX3_worstOfShifts_67 : decode cX3_worstOfShifts 67 = .ok (.goto (-28), 3) := by decide +kernel
theorem dX3_worstOfShifts_70 : decode cX3_worstOfShifts 70 = .ok (.iconst 0, 1) := by decide +kernel
theorem dX3_worstOfShifts_71 : decode cX3_worstOfShifts 71 = .ok (.istore 4, 2) := by decide +kernel
theorem dX3_worstOfShifts_73 : decode cX3_worstOfShifts 73 = .ok (.iconst 0, 1) := by decide +kernel
theorem dX3_worstOfShifts_74 : decode cX3_worstOfShifts 74 = .ok (.istore 5, 2) := by decide +kernel
theorem dX3_worstOfShifts_76 : decode cX3_worstOfShifts 76 = .ok (.iload 5, 2) := by decide +kernel
theorem dX3_worstOfShifts_78 : decode cX3_worstOfShifts 78 = .ok (.iload_n 3, 1) := by decide +kernel
theorem dX3_worstOfShifts_79 : decode cX3_worstOfShifts 79 = .ok (.if_icmp .gt 29, 3) := by decide +kernel
theorem dX3_worstOfShifts_82 : decode cX3_worstOfShifts 82 = .ok (.iload 4, 2) := by decide +kernel
theorem dX3_worstOfShifts_84 : decode cX3_worstOfShifts 84 = .ok (.ldc 191, 2) := by decide +kernel
theorem dX3_worstOfShifts_86 : decode cX3_worstOfShifts 86 = .ok (.if_icmp .ge 22, 3) := by decide +kernel
theorem dX3_worstOfShifts_89 : decode cX3_worstOfShifts 89 = .ok (.iload 4, 2) := by decide +kernel
theorem dX3_worstOfShifts_91 : decode cX3_worstOfShifts 91 = .ok (.aload_n 0, 1) := by decide +kernel
theorem dX3_worstOfShifts_92 : decode cX3_worstOfShifts 92 = .ok (.iload 5, 2) := by decide +kernel
theorem dX3_worstOfShifts_94 : decode cX3_worstOfShifts 94 = .ok (.invokevirtual 192, 3) := by decide +kernel
theorem dX3_worstOfShifts_97 : decode cX3_worstOfShifts 97 = .ok (.invokestatic 168, 3) := by decide +kernel
theorem dX3_worstOfShifts_100 : decode cX3_worstOfShifts 100 = .ok (.istore 4, 2) := by decide +kernel
theorem dX3_worstOfShifts_102 : decode cX3_worstOfShifts 102 = .ok (.iinc 5 1, 3) := by decide +kernel
theorem dX3_worstOfShifts_105 : decode cX3_worstOfShifts 105 = .ok (.goto (-29), 3) := by decide +kernel
theorem dX3_worstOfShifts_108 : decode cX3_worstOfShifts 108 = .ok (.iload 4, 2) := by decide +kernel
theorem dX3_worstOfShifts_110 : decode cX3_worstOfShifts 110 = .ok (.ireturn, 1) := by decide +kernel
theorem dX3_slotsToMeet_0 : decode cX3_slotsToMeet 0 = .ok (.iconst 0, 1) := by decide +kernel
theorem dX3_slotsToMeet_1 : decode cX3_slotsToMeet 1 = .ok (.istore_n 2, 1) := by decide +kernel
theorem dX3_slotsToMeet_2 : decode cX3_slotsToMeet 2 = .ok (.iload_n 2, 1) := by decide +kernel
theorem dX3_slotsToMeet_3 : decode cX3_slotsToMeet 3 = .ok (.sipush 1500, 3) := by decide +kernel
theorem dX3_slotsToMeet_6 : decode cX3_slotsToMeet 6 = .ok (.if_icmp .ge 35, 3) := by decide +kernel
theorem dX3_slotsToMeet_9 : decode cX3_slotsToMeet 9 = .ok (.aload_n 0, 1) := by decide +kernel
theorem dX3_slotsToMeet_10 : decode cX3_slotsToMeet 10 = .ok (.getfield 42, 3) := by decide +kernel
theorem dX3_slotsToMeet_13 : decode cX3_slotsToMeet 13 = .ok (.iload_n 2, 1) := by decide +kernel
theorem dX3_slotsToMeet_14 : decode cX3_slotsToMeet 14 = .ok (.iaload, 1) := by decide +kernel
theorem dX3_slotsToMeet_15 : decode cX3_slotsToMeet 15 = .ok (.istore_n 3, 1) := by decide +kernel
theorem dX3_slotsToMeet_16 : decode cX3_slotsToMeet 16 = .ok (.iload_n 3, 1) := by decide +kernel
theorem dX3_slotsToMeet_17 : decode cX3_slotsToMeet 17 = .ok (.iconst (-1), 1) := by decide +kernel
theorem dX3_slotsToMeet_18 : decode cX3_slotsToMeet 18 = .ok (.if_icmp .eq 17, 3) := by decide +kernel
theorem dX3_slotsToMeet_21 : decode cX3_slotsToMeet 21 = .ok (.iload_n 3, 1) := by decide +kernel
theorem dX3_slotsToMeet_22 : decode cX3_slotsToMeet 22 = .ok (.aload_n 0, 1) := by decide +kernel
theorem dX3_slotsToMeet_23 : decode cX3_slotsToMeet 23 = .ok (.getfield 38, 3) := by decide +kernel
theorem dX3_slotsToMeet_26 : decode cX3_slotsToMeet 26 = .ok (.iload_n 2, 1) := by decide +kernel
theorem dX3_slotsToMeet_27 : decode cX3_slotsToMeet 27 = .ok (.iload_n 1, 1) := by decide +kernel
theorem dX3_slotsToMeet_28 : decode cX3_slotsToMeet 28 = .ok (.iadd, 1) := by decide +kernel
theorem dX3_slotsToMeet_29 : decode cX3_slotsToMeet 29 = .ok (.iaload, 1) := by decide +kernel
theorem dX3_slotsToMeet_30 : decode cX3_slotsToMeet 30 = .ok (.if_icmp .ne 5, 3) := by decide +kernel
theorem dX3_slotsToMeet_33 : decode cX3_slotsToMeet 33 = .ok (.iload_n 2, 1) := by decide +kernel
theorem dX3_slotsToMeet_34 : decode cX3_slotsToMeet 34 = .ok (.ireturn, 1) := by decide +kernel
theorem dX3_slotsToMeet_35 : decode cX3_slotsToMeet 35 = .ok (.iinc 2 1, 3) := by decide +kernel
theorem dX3_slotsToMeet_38 : decode cX3_slotsToMeet 38 = .ok (.goto (-36), 3) := by decide +kernel
theorem dX3_slotsToMeet_41 : decode cX3_slotsToMeet 41 = .ok (.ldc 191, 2) := by decide +kernel
theorem dX3_slotsToMeet_43 : decode cX3_slotsToMeet 43 = .ok (.ireturn, 1) := by decide +kernel
set_option maxRecDepth 20000 in
theorem ggX3_countTimesOn_X2_placeByClock : GoodIn wsX3_countTimesOn wsX2_placeByClock := goodIn_r _ [7, 8, 9, 10, 11, 6, 12, 13, 14, 15, 16, 17, 18, 19, 20, 21, 22, 23, 24, 25, 26, 27, 28, 29, 30, 31, 32, 33, 34, 35, 36, 37, 46, 47, 48, 49, 50, 51] (by decide +kernel) (by decide +kernel)
set_option maxRecDepth 20000 in
theorem gX3_countTimesOn_X2_placeByClock : GoodIn wsX3_countTimesOn (wsV RX3 188 RX2 yX2_placeByClock wsX2_placeByClock) := goodIn_app (goodIn_of _ (by decide +kernel)) ggX3_countTimesOn_X2_placeByClock
theorem dX3_countTimesOn_0 : decode cX3_countTimesOn 0 = .ok (.iconst 0, 1) := by decide +kernel
theorem dX3_countTimesOn_1 : decode cX3_countTimesOn 1 = .ok (.istore_n 3, 1) := by decide +kernel
theorem dX3_countTimesOn_2 : decode cX3_countTimesOn 2 = .ok (.iload_n 3, 1) := by decide +kernel
theorem dX3_countTimesOn_3 : decode cX3_countTimesOn 3 = .ok (.bipush 10, 2) := by decide +kernel
theorem dX3_countTimesOn_5 : decode cX3_countTimesOn 5 = .ok (.if_icmp .ge 16, 3) := by decide +kernel
theorem dX3_countTimesOn_8 : decode cX3_countTimesOn 8 = .ok (.aload_n 0, 1) := by decide +kernel
theorem dX3_countTimesOn_9 : decode cX3_countTimesOn 9 = .ok (.getfield 45, 3) := by decide +kernel
theorem dX3_countTimesOn_12 : decode cX3_countTimesOn 12 = .ok (.iload_n 3, 1) := by decide +kernel
theorem dX3_countTimesOn_13 : decode cX3_countTimesOn 13 = .ok (.iconst 0, 1) := by decide +kernel
theorem dX3_countTimesOn_14 : decode cX3_countTimesOn 14 = .ok (.iastore, 1) := by decide +kernel
theorem dX3_countTimesOn_15 : decode cX3_countTimesOn 15 = .ok (.iinc 3 1, 3) := by decide +kernel
theorem dX3_countTimesOn_18 : decode cX3_countTimesOn 18 = .ok (.goto (-16), 3) := by decide +kernel
theorem dX3_countTimesOn_21 : decode cX3_countTimesOn 21 = .ok (.iconst 0, 1) := by decide +kernel
theorem dX3_countTimesOn_22 : decode cX3_countTimesOn 22 = .ok (.istore_n 3, 1) := by decide +kernel
theorem dX3_countTimesOn_23 : decode cX3_countTimesOn 23 = .ok (.iload_n 3, 1) := by decide +kernel
theorem dX3_countTimesOn_24 : decode cX3_countTimesOn 24 = .ok (.iload_n 2, 1) := by decide +kernel
theorem dX3_countTimesOn_25 : decode cX3_countTimesOn 25 = .ok (.if_icmp .ge 43, 3) := by decide +kernel
theorem dX3_countTimesOn_28 : decode cX3_countTimesOn 28 = .ok (.aload_n 0, 1) := by decide +kernel
theorem dX3_countTimesOn_29 : decode cX3_countTimesOn 29 = .ok (.getfield 10, 3) := by decide +kernel
theorem dX3_countTimesOn_32 : decode cX3_countTimesOn 32 = .ok (.iload_n 1, 1) := by decide +kernel
theorem dX3_countTimesOn_33 : decode cX3_countTimesOn 33 = .ok (.iload_n 3, 1) := by decide +kernel
theorem dX3_countTimesOn_34 : decode cX3_countTimesOn 34 = .ok (.invokevirtual 188, 3) := by decide +kernel
theorem dX3_countTimesOn_37 : decode cX3_countTimesOn 37 = .ok (.istore 4, 2) := by decide +kernel
theorem dX3_countTimesOn_39 : decode cX3_countTimesOn 39 = .ok (.iload 4, 2) := by decide +kernel
theorem dX3_countTimesOn_41 : decode cX3_countTimesOn 41 = .ok (.ifCond .lt 21, 3) := by decide +kernel
theorem dX3_countTimesOn_44 : decode cX3_countTimesOn 44 = .ok (.iload 4, 2) := by decide +kernel
theorem dX3_countTimesOn_46 : decode cX3_countTimesOn 46 = .ok (.bipush 10, 2) := by decide +kernel
theorem dX3_countTimesOn_48 : decode cX3_countTimesOn 48 = .ok (.if_icmp .ge 14, 3) := by decide +kernel
theorem dX3_countTimesOn_51 : decode cX3_countTimesOn 51 = .ok (.aload_n 0, 1) := by decide +kernel
theorem dX3_countTimesOn_52 : decode cX3_countTimesOn 52 = .ok (.getfield 45, 3) := by decide +kernel
theorem dX3_countTimesOn_55 : decode cX3_countTimesOn 55 = .ok (.iload 4, 2) := by decide +kernel
theorem dX3_countTimesOn_57 : decode cX3_countTimesOn 57 = .ok (.dup2, 1) := by decide +kernel
theorem dX3_countTimesOn_58 : decode cX3_countTimesOn 58 = .ok (.iaload, 1) := by decide +kernel
theorem dX3_countTimesOn_59 : decode cX3_countTimesOn 59 = .ok (.iconst 1, 1) := by decide +kernel
theorem dX3_countTimesOn_60 : decode cX3_countTimesOn 60 = .ok (.iadd, 1) := by decide +kernel
theorem dX3_countTimesOn_61 : decode cX3_countTimesOn 61 = .ok (.iastore, 1) := by decide +kernel
theorem dX3_countTimesOn_62 : decode cX3_countTimesOn 62 = .ok (.iinc 3 1, 3) := by decide +kernel
theorem dX3_countTimesOn_65 : decode cX3_countTimesOn 65 = .ok (.goto (-42), 3) := by decide +kernel
theorem dX3_countTimesOn_68 : decode cX3_countTimesOn 68 = .ok (.return_, 1) := by decide +kernel
set_option maxRecDepth 20000 in
theorem ggX4_init_X4_layPrime : GoodIn wsX4_init wsX4_layPrime := goodIn_r _ [16, 5, 17, 18, 19, 15, 20, 26, 27, 28, 29, 30, 31, 32, 33, 34, 35] (by decide +kernel) (by decide +kernel)
set_option maxRecDepth 20000 in
theorem gX4_init_X4_layPrime : GoodIn wsX4_init (wsV RX4 29 RX4 yX4_layPrime wsX4_layPrime) := goodIn_app (goodIn_of _ (by decide +kernel)) ggX4_init_X4_layPrime
set_option maxRecDepth 20000 in
theorem ggX4_init_X4_anew : GoodIn wsX4_init wsX4_anew := goodIn_r _ [24, 25, 10, 26, 27, 28, 29, 30, 31, 32, 33, 34, 35] (by decide +kernel) (by decide +kernel)
set_option maxRecDepth 20000 in
theorem gX4_init_X4_anew : GoodIn wsX4_init (wsV RX4 32 RX4 yX4_anew wsX4_anew) := goodIn_app (goodIn_of _ (by decide +kernel)) ggX4_init_X4_anew
theorem dX4_init_0 : decode cX4_init 0 = .ok (.aload_n 0, 1) := by decide +kernel
theorem dX4_init_1 : decode cX4_init 1 = .ok (.invokespecial 1, 3) := by decide +kernel
theorem dX4_init_4 : decode cX4_init 4 = .ok (.aload_n 0, 1) := by decide +kernel
theorem dX4_init_5 : decode cX4_init 5 = .ok (.bipush 60, 2) := by decide +kernel
theorem dX4_init_7 : decode cX4_init 7 = .ok (.newarray .int, 2) := by decide +kernel
theorem dX4_init_9 : decode cX4_init 9 = .ok (.putfield 7, 3) := by decide +kernel
theorem dX4_init_12 : decode cX4_init 12 = .ok (.aload_n 0, 1) := by decide +kernel
theorem dX4_init_13 : decode cX4_init 13 = .ok (.sipush 720, 3) := by decide +kernel
theorem dX4_init_16 : decode cX4_init 16 = .ok (.newarray .int, 2) := by decide +kernel
theorem dX4_init_18 : decode cX4_init 18 = .ok (.putfield 13, 3) := by decide +kernel
theorem dX4_init_21 : decode cX4_init 21 = .ok (.aload_n 0, 1) := by decide +kernel
theorem dX4_init_22 : decode cX4_init 22 = .ok (.bipush 120, 2) := by decide +kernel
theorem dX4_init_24 : decode cX4_init 24 = .ok (.newarray .int, 2) := by decide +kernel
theorem dX4_init_26 : decode cX4_init 26 = .ok (.putfield 16, 3) := by decide +kernel
theorem dX4_init_29 : decode cX4_init 29 = .ok (.aload_n 0, 1) := by decide +kernel
theorem dX4_init_30 : decode cX4_init 30 = .ok (.iconst 2, 1) := by decide +kernel
theorem dX4_init_31 : decode cX4_init 31 = .ok (.newarray .boolean, 2) := by decide +kernel
theorem dX4_init_33 : decode cX4_init 33 = .ok (.putfield 19, 3) := by decide +kernel
theorem dX4_init_36 : decode cX4_init 36 = .ok (.aload_n 0, 1) := by decide +kernel
theorem dX4_init_37 : decode cX4_init 37 = .ok (.iconst 5, 1) := by decide +kernel
theorem dX4_init_38 : decode cX4_init 38 = .ok (.newarray .int, 2) := by decide +kernel
theorem dX4_init_40 : decode cX4_init 40 = .ok (.putfield 23, 3) := by decide +kernel
theorem dX4_init_43 : decode cX4_init 43 = .ok (.aload_n 0, 1) := by decide +kernel
theorem dX4_init_44 : decode cX4_init 44 = .ok (.bipush 10, 2) := by decide +kernel
theorem dX4_init_46 : decode cX4_init 46 = .ok (.newarray .int, 2) := by decide +kernel
theorem dX4_init_48 : decode cX4_init 48 = .ok (.putfield 26, 3) := by decide +kernel
theorem dX4_init_51 : decode cX4_init 51 = .ok (.aload_n 0, 1) := by decide +kernel
theorem dX4_init_52 : decode cX4_init 52 = .ok (.getfield 7, 3) := by decide +kernel
theorem dX4_init_55 : decode cX4_init 55 = .ok (.iconst 0, 1) := by decide +kernel
theorem dX4_init_56 : decode cX4_init 56 = .ok (.iconst 4, 1) := by decide +kernel
theorem dX4_init_57 : decode cX4_init 57 = .ok (.iastore, 1) := by decide +kernel
theorem dX4_init_58 : decode cX4_init 58 = .ok (.aload_n 0, 1) := by decide +kernel
theorem dX4_init_59 : decode cX4_init 59 = .ok (.invokevirtual 29, 3) := by decide +kernel
theorem dX4_init_62 : decode cX4_init 62 = .ok (.aload_n 0, 1) := by decide +kernel
theorem dX4_init_63 : decode cX4_init 63 = .ok (.invokevirtual 32, 3) := by decide +kernel
theorem dX4_init_66 : decode cX4_init 66 = .ok (.return_, 1) := by decide +kernel
theorem dX4_in_0 : decode cX4_in 0 = .ok (.iload_n 0, 1) := by decide +kernel
theorem dX4_in_1 : decode cX4_in 1 = .ok (.iload_n 1, 1) := by decide +kernel
theorem dX4_in_2 : decode cX4_in 2 = .ok (.if_icmp .lt 12, 3) := by decide +kernel
theorem dX4_in_5 : decode cX4_in 5 = .ok (.iload_n 0, 1) := by decide +kernel
theorem dX4_in_6 : decode cX4_in 6 = .ok (.iload_n 2, 1) := by decide +kernel
theorem dX4_in_7 : decode cX4_in 7 = .ok (.if_icmp .gt 7, 3) := by decide +kernel
theorem dX4_in_10 : decode cX4_in 10 = .ok (.iconst 1, 1) := by decide +kernel
theorem dX4_in_11 : decode cX4_in 11 = .ok (.goto 4, 3) := by decide +kernel
theorem dX4_in_14 : decode cX4_in 14 = .ok (.iconst 0, 1) := by decide +kernel
theorem dX4_in_15 : decode cX4_in 15 = .ok (.ireturn, 1) := by decide +kernel
theorem dX4_bring_0 : decode cX4_bring 0 = .ok (.iconst 0, 1) := by decide +kernel
theorem dX4_bring_1 : decode cX4_bring 1 = .ok (.istore 5, 2) := by decide +kernel
theorem dX4_bring_3 : decode cX4_bring 3 = .ok (.iload 5, 2) := by decide +kernel
theorem dX4_bring_5 : decode cX4_bring 5 = .ok (.iload 4, 2) := by decide +kernel
theorem dX4_bring_7 : decode cX4_bring 7 = .ok (.if_icmp .ge 21, 3) := by decide +kernel
theorem dX4_bring_10 : decode cX4_bring 10 = .ok (.aload_n 2, 1) := by decide +kernel
theorem dX4_bring_11 : decode cX4_bring 11 = .ok (.iload_n 3, 1) := by decide +kernel
theorem dX4_bring_12 : decode cX4_bring 12 = .ok (.iload 5, 2) := by decide +kernel
theorem dX4_bring_14 : decode cX4_bring 14 = .ok (.iadd, 1) := by decide +kernel
theorem dX4_bring_15 : decode cX4_bring 15 = .ok (.aload_n 0, 1) := by decide +kernel
theorem dX4_bring_16 : decode cX4_bring 16 = .ok (.iload_n 1, 1) := by decide +kernel
theorem dX4_bring_17 : decode cX4_bring 17 = .ok (.iload 5, 2) := by decide +kernel
theorem dX4_bring_19 : decode cX4_bring 19 = .ok (.iadd, 1) := by decide +kernel
theorem dX4_bring_20 : decode cX4_bring 20 = .ok (.iaload, 1) := by decide +kernel
theorem dX4_bring_21 : decode cX4_bring 21 = .ok (.iastore, 1) := by decide +kernel
theorem dX4_bring_22 : decode cX4_bring 22 = .ok (.iinc 5 1, 3) := by decide +kernel
theorem dX4_bring_25 : decode cX4_bring 25 = .ok (.goto (-22), 3) := by decide +kernel
theorem dX4_bring_28 : decode cX4_bring 28 = .ok (.return_, 1) := by decide +kernel
theorem dX4_all_0 : decode cX4_all 0 = .ok (.iconst 1, 1) := by decide +kernel
theorem dX4_all_1 : decode cX4_all 1 = .ok (.aload_n 0, 1) := by decide +kernel
theorem dX4_all_2 : decode cX4_all 2 = .ok (.getfield 7, 3) := by decide +kernel
theorem dX4_all_5 : decode cX4_all 5 = .ok (.iconst 0, 1) := by decide +kernel
theorem dX4_all_6 : decode cX4_all 6 = .ok (.iaload, 1) := by decide +kernel
theorem dX4_all_7 : decode cX4_all 7 = .ok (.ishl, 1) := by decide +kernel
theorem dX4_all_8 : decode cX4_all 8 = .ok (.iconst 1, 1) := by decide +kernel
theorem dX4_all_9 : decode cX4_all 9 = .ok (.isub, 1) := by decide +kernel
theorem dX4_all_10 : decode cX4_all 10 = .ok (.ireturn, 1) := by decide +kernel
set_option maxRecDepth 20000 in
theorem ggX4_layPrime_X4_isPrime : GoodIn wsX4_layPrime wsX4_isPrime := goodIn_r _ [6] (by decide +kernel) (by decide +kernel)
set_option maxRecDepth 20000 in
theorem gX4_layPrime_X4_isPrime : GoodIn wsX4_layPrime (va_wsS RX4 39 yX4_isPrime wsX4_isPrime) := goodIn_app (goodIn_of _ (by decide +kernel)) ggX4_layPrime_X4_isPrime
theorem dX4_layPrime_0 : decode cX4_layPrime 0 = .ok (.aload_n 0, 1) := by decide +kernel
theorem dX4_layPrime_1 : decode cX4_layPrime 1 = .ok (.aload_n 0, 1) := by decide +kernel
theorem dX4_layPrime_2 : decode cX4_layPrime 2 = .ok (.getfield 7, 3) := by decide +kernel
theorem dX4_layPrime_5 : decode cX4_layPrime 5 = .ok (.iconst 0, 1) := by decide +kernel
theorem dX4_layPrime_6 : decode cX4_layPrime 6 = .ok (.iaload, 1) := by decide +kernel
theorem dX4_layPrime_7 : decode cX4_layPrime 7 = .ok (.iconst 1, 1) := by decide +kernel
theorem dX4_layPrime_8 : decode cX4_layPrime 8 = .ok (.iadd, 1) := by decide +kernel
theorem dX4_layPrime_9 : decode cX4_layPrime 9 = .ok (.putfield 35, 3) := by decide +kernel
theorem dX4_layPrime_12 : decode cX4_layPrime 12 = .ok (.aload_n 0, 1) := by decide +kernel
theorem dX4_layPrime_13 : decode cX4_layPrime 13 = .ok (.getfield 35, 3) := by decide +kernel
theorem dX4_layPrime_16 : decode cX4_layPrime 16 = .ok (.invokestatic 39, 3) := by decide +kernel
theorem dX4_layPrime_19 : decode cX4_layPrime 19 = .ok (.ifCond .ne 16, 3) := by decide +kernel
theorem dX4_layPrime_22 : decode cX4_layPrime 22 = .ok (.aload_n 0, 1) := by decide +kernel
theorem dX4_layPrime_23 : decode cX4_layPrime 23 = .ok (.dup, 1) := by decide +kernel
theorem dX4_layPrime_24 : decode cX4_layPrime 24 = .ok (.getfield 35, 3) := by decide +kernel
theorem dX4_layPrime_27 : decode cX4_layPrime 27 = .ok (.iconst 1, 1) := by decide +kernel
theorem dX4_layPrime_28 : decode cX4_layPrime 28 = .ok (.iadd, 1) := by decide +kernel
theorem dX4_layPrime_29 : decode cX4_layPrime 29 = .ok (.putfield 35, 3) := by decide +kernel
theorem dX4_layPrime_32 : decode cX4_layPrime 32 = .ok (.goto (-20), 3) := by decide +kernel
theorem dX4_layPrime_35 : decode cX4_layPrime 35 = .ok (.return_, 1) := by decide +kernel
theorem dX4_isPrime_0 : decode cX4_isPrime 0 = .ok (.iconst 1, 1) := by decide +kernel
theorem dX4_isPrime_1 : decode cX4_isPrime 1 = .ok (.istore_n 1, 1) := by decide +kernel
theorem dX4_isPrime_2 : decode cX4_isPrime 2 = .ok (.iconst 2, 1) := by decide +kernel
theorem dX4_isPrime_3 : decode cX4_isPrime 3 = .ok (.istore_n 2, 1) := by decide +kernel
theorem dX4_isPrime_4 : decode cX4_isPrime 4 = .ok (.iload_n 2, 1) := by decide +kernel
theorem dX4_isPrime_5 : decode cX4_isPrime 5 = .ok (.iload_n 0, 1) := by decide +kernel
theorem dX4_isPrime_6 : decode cX4_isPrime 6 = .ok (.if_icmp .ge 25, 3) := by decide +kernel
theorem dX4_isPrime_9 : decode cX4_isPrime 9 = .ok (.iload_n 1, 1) := by decide +kernel
theorem dX4_isPrime_10 : decode cX4_isPrime 10 = .ok (.ifCond .eq 13, 3) := by decide +kernel
theorem dX4_isPrime_13 : decode cX4_isPrime 13 = .ok (.iload_n 0, 1) := by decide +kernel
theorem dX4_isPrime_14 : decode cX4_isPrime 14 = .ok (.iload_n 2, 1) := by decide +kernel
theorem dX4_isPrime_15 : decode cX4_isPrime 15 = .ok (.irem, 1) := by decide +kernel
theorem dX4_isPrime_16 : decode cX4_isPrime 16 = .ok (.ifCond .eq 7, 3) := by decide +kernel
theorem dX4_isPrime_19 : decode cX4_isPrime 19 = .ok (.iconst 1, 1) := by decide +kernel
theorem dX4_isPrime_20 : decode cX4_isPrime 20 = .ok (.goto 4, 3) := by decide +kernel
theorem dX4_isPrime_23 : decode cX4_isPrime 23 = .ok (.iconst 0, 1) := by decide +kernel
theorem dX4_isPrime_24 : decode cX4_isPrime 24 = .ok (.istore_n 1, 1) := by decide +kernel
theorem dX4_isPrime_25 : decode cX4_isPrime 25 = .ok (.iinc 2 1, 3) := by decide +kernel
theorem dX4_isPrime_28 : decode cX4_isPrime 28 = .ok (.goto (-24), 3) := by decide +kernel
theorem dX4_isPrime_31 : decode cX4_isPrime 31 = .ok (.iload_n 1, 1) := by decide +kernel
theorem dX4_isPrime_32 : decode cX4_isPrime 32 = .ok (.ireturn, 1) := by decide +kernel
set_option maxRecDepth 20000 in
theorem ggX4_isUser_X4_in : GoodIn wsX4_isUser wsX4_in := goodIn_r _ [5] (by decide +kernel) (by decide +kernel)
set_option maxRecDepth 20000 in
theorem gX4_isUser_X4_in : GoodIn wsX4_isUser (va_wsS RX4 43 yX4_in wsX4_in) := goodIn_app (goodIn_of _ (by decide +kernel)) ggX4_isUser_X4_in
theorem dX4_isUser_0 : decode cX4_isUser 0 = .ok (.iload_n 1, 1) := by decide +kernel
theorem dX4_isUser_1 : decode cX4_isUser 1 = .ok (.iconst 0, 1) := by decide +kernel
theorem dX4_isUser_2 : decode cX4_isUser 2 = .ok (.aload_n 0, 1) := by decide +kernel
theorem dX4_isUser_3 : decode cX4_isUser 3 = .ok (.getfield 7, 3) := by decide +kernel
theorem dX4_isUser_6 : decode cX4_isUser 6 = .ok (.iconst 1, 1) := by decide +kernel
theorem dX4_isUser_7 : decode cX4_isUser 7 = .ok (.iaload, 1) := by decide +kernel
theorem dX4_isUser_8 : decode cX4_isUser 8 = .ok (.iconst 1, 1) := by decide +kernel
theorem dX4_isUser_9 : decode cX4_isUser 9 = .ok (.isub, 1) := by decide +kernel
theorem dX4_isUser_10 : decode cX4_isUser 10 = .ok (.invokestatic 43, 3) := by decide +kernel
theorem dX4_isUser_13 : decode cX4_isUser 13 = .ok (.ireturn, 1) := by decide +kernel
set_option maxRecDepth 20000 in
theorem ggX4_areTwo_X4_isUser : GoodIn wsX4_areTwo wsX4_isUser := goodIn_r _ [5, 6, 7, 8, 4, 9, 10, 11, 12, 13, 14, 15, 16, 17, 18, 19] (by decide +kernel) (by decide +kernel)
set_option maxRecDepth 20000 in
theorem gX4_areTwo_X4_isUser : GoodIn wsX4_areTwo (wsV RX4 47 RX4 yX4_isUser wsX4_isUser) := goodIn_app (goodIn_of _ (by decide +kernel)) ggX4_areTwo_X4_isUser
theorem dX4_areTwo_0 : decode cX4_areTwo 0 = .ok (.aload_n 0, 1) := by decide +kernel
theorem dX4_areTwo_1 : decode cX4_areTwo 1 = .ok (.iload_n 1, 1) := by decide +kernel
theorem dX4_areTwo_2 : decode cX4_areTwo 2 = .ok (.invokevirtual 47, 3) := by decide +kernel
theorem dX4_areTwo_5 : decode cX4_areTwo 5 = .ok (.ifCond .eq 20, 3) := by decide +kernel
theorem dX4_areTwo_8 : decode cX4_areTwo 8 = .ok (.aload_n 0, 1) := by decide +kernel
theorem dX4_areTwo_9 : decode cX4_areTwo 9 = .ok (.iload_n 2, 1) := by decide +kernel
theorem dX4_areTwo_10 : decode cX4_areTwo 10 = .ok (.invokevirtual 47, 3) := by decide +kernel
theorem dX4_areTwo_13 : decode cX4_areTwo 13 = .ok (.ifCond .eq 12, 3) := by decide +kernel
theorem dX4_areTwo_16 : decode cX4_areTwo 16 = .ok (.iload_n 1, 1) := by decide +kernel
theorem dX4_areTwo_17 : decode cX4_areTwo 17 = .ok (.iload_n 2, 1) := by decide +kernel
theorem dX4_areTwo_18 : decode cX4_areTwo 18 = .ok (.if_icmp .eq 7, 3) := by decide +kernel
theorem dX4_areTwo_21 : decode cX4_areTwo 21 = .ok (.iconst 1, 1) := by decide +kernel
theorem dX4_areTwo_22 : decode cX4_areTwo 22 = .ok (.goto 4, 3) := by decide +kernel
theorem dX4_areTwo_25 : decode cX4_areTwo 25 = .ok (.iconst 0, 1) := by decide +kernel
theorem dX4_areTwo_26 : decode cX4_areTwo 26 = .ok (.ireturn, 1) := by decide +kernel
theorem dX4_of_0 : decode cX4_of 0 = .ok (.aload_n 0, 1) := by decide +kernel
theorem dX4_of_1 : decode cX4_of 1 = .ok (.getfield 7, 3) := by decide +kernel
theorem dX4_of_4 : decode cX4_of 4 = .ok (.iconst 3, 1) := by decide +kernel
theorem dX4_of_5 : decode cX4_of 5 = .ok (.iconst 5, 1) := by decide +kernel
theorem dX4_of_6 : decode cX4_of 6 = .ok (.iload_n 1, 1) := by decide +kernel
theorem dX4_of_7 : decode cX4_of 7 = .ok (.imul, 1) := by decide +kernel
theorem dX4_of_8 : decode cX4_of 8 = .ok (.iadd, 1) := by decide +kernel
theorem dX4_of_9 : decode cX4_of 9 = .ok (.iload_n 2, 1) := by decide +kernel
theorem dX4_of_10 : decode cX4_of 10 = .ok (.iadd, 1) := by decide +kernel
theorem dX4_of_11 : decode cX4_of 11 = .ok (.iaload, 1) := by decide +kernel
theorem dX4_of_12 : decode cX4_of 12 = .ok (.ireturn, 1) := by decide +kernel
set_option maxRecDepth 20000 in
theorem ggX4_points_X4_of : GoodIn wsX4_points wsX4_of := goodIn_r _ [7, 1, 8, 9, 10, 11, 12, 13, 14, 15, 16, 17] (by decide +kernel) (by decide +kernel)
set_option maxRecDepth 20000 in
theorem gX4_points_X4_of : GoodIn wsX4_points (wsV RX4 50 RX4 yX4_of wsX4_of) := goodIn_app (goodIn_of _ (by decide +kernel)) ggX4_points_X4_of
theorem dX4_points_0 : decode cX4_points 0 = .ok (.aload_n 0, 1) := by decide +kernel
theorem dX4_points_1 : decode cX4_points 1 = .ok (.getfield 7, 3) := by decide +kernel
theorem dX4_points_4 : decode cX4_points 4 = .ok (.iconst 0, 1) := by decide +kernel
theorem dX4_points_5 : decode cX4_points 5 = .ok (.iaload, 1) := by decide +kernel
theorem dX4_points_6 : decode cX4_points 6 = .ok (.istore_n 3, 1) := by decide +kernel
theorem dX4_points_7 : decode cX4_points 7 = .ok (.aload_n 0, 1) := by decide +kernel
theorem dX4_points_8 : decode cX4_points 8 = .ok (.getfield 35, 3) := by decide +kernel
theorem dX4_points_11 : decode cX4_points 11 = .ok (.istore 4, 2) := by decide +kernel
theorem dX4_points_13 : decode cX4_points 13 = .ok (.aload_n 0, 1) := by decide +kernel
theorem dX4_points_14 : decode cX4_points 14 = .ok (.iload_n 1, 1) := by decide +kernel
theorem dX4_points_15 : decode cX4_points 15 = .ok (.iconst 1, 1) := by decide +kernel
theorem dX4_points_16 : decode cX4_points 16 = .ok (.invokevirtual 50, 3) := by decide +kernel
theorem dX4_points_19 : decode cX4_points 19 = .ok (.istore 5, 2) := by decide +kernel
theorem dX4_points_21 : decode cX4_points 21 = .ok (.iconst 1, 1) := by decide +kernel
theorem dX4_points_22 : decode cX4_points 22 = .ok (.aload_n 0, 1) := by decide +kernel
theorem dX4_points_23 : decode cX4_points 23 = .ok (.iload_n 1, 1) := by decide +kernel
theorem dX4_points_24 : decode cX4_points 24 = .ok (.iconst 2, 1) := by decide +kernel
theorem dX4_points_25 : decode cX4_points 25 = .ok (.invokevirtual 50, 3) := by decide +kernel
theorem dX4_points_28 : decode cX4_points 28 = .ok (.iload_n 3, 1) := by decide +kernel
theorem dX4_points_29 : decode cX4_points 29 = .ok (.irem, 1) := by decide +kernel
theorem dX4_points_30 : decode cX4_points 30 = .ok (.iadd, 1) := by decide +kernel
theorem dX4_points_31 : decode cX4_points 31 = .ok (.istore 6, 2) := by decide +kernel
theorem dX4_points_33 : decode cX4_points 33 = .ok (.aload_n 0, 1) := by decide +kernel
theorem dX4_points_34 : decode cX4_points 34 = .ok (.iload_n 1, 1) := by decide +kernel
theorem dX4_points_35 : decode cX4_points 35 = .ok (.iconst 0, 1) := by decide +kernel
theorem dX4_points_36 : decode cX4_points 36 = .ok (.invokevirtual 50, 3) := by decide +kernel
theorem dX4_points_39 : decode cX4_points 39 = .ok (.iconst 1, 1) := by decide +kernel
theorem dX4_points_40 : decode cX4_points 40 = .ok (.if_icmp .ne 10, 3) := by decide +kernel
theorem dX4_points_43 : decode cX4_points 43 = .ok (.iload 5, 2) := by decide +kernel
theorem dX4_points_45 : decode cX4_points 45 = .ok (.iload_n 2, 1) := by decide +kernel
theorem dX4_points_46 : decode cX4_points 46 = .ok (.iadd, 1) := by decide +kernel
theorem dX4_points_47 : decode cX4_points 47 = .ok (.iload_n 3, 1) := by decide +kernel
theorem dX4_points_48 : decode cX4_points 48 = .ok (.irem, 1) := by decide +kernel
theorem dX4_points_49 : decode cX4_points 49 = .ok (.ireturn, 1) := by decide +kernel
theorem dX4_points_50 : decode cX4_points 50 = .ok (.aload_n 0, 1) := by decide +kernel
theorem dX4_points_51 : decode cX4_points 51 = .ok (.iload_n 1, 1) := by decide +kernel
theorem dX4_points_52 : decode cX4_points 52 = .ok (.iconst 0, 1) := by decide +kernel
theorem dX4_points_53 : decode cX4_points 53 = .ok (.invokevirtual 50, 3) := by decide +kernel
theorem dX4_points_56 : decode cX4_points 56 = .ok (.iconst 2, 1) := by decide +kernel
theorem dX4_points_57 : decode cX4_points 57 = .ok (.if_icmp .ne 8, 3) := by decide +kernel
theorem dX4_points_60 : decode cX4_points 60 = .ok (.iload 5, 2) := by decide +kernel
theorem dX4_points_62 : decode cX4_points 62 = .ok (.iload_n 3, 1) := by decide +kernel
theorem dX4_points_63 : decode cX4_points 63 = .ok (.irem, 1) := by decide +kernel
theorem dX4_points_64 : decode cX4_points 64 = .ok (.ireturn, 1) := by decide +kernel
theorem dX4_points_65 : decode cX4_points 65 = .ok (.aload_n 0, 1) := by decide +kernel
theorem dX4_points_66 : decode cX4_points 66 = .ok (.iload_n 1, 1) := by decide +kernel
theorem dX4_points_67 : decode cX4_points 67 = .ok (.iconst 0, 1) := by decide +kernel
theorem dX4_points_68 : decode cX4_points 68 = .ok (.invokevirtual 50, 3) := by decide +kernel
theorem dX4_points_71 : decode cX4_points 71 = .ok (.iconst 3, 1) := by decide +kernel
theorem dX4_points_72 : decode cX4_points 72 = .ok (.if_icmp .ne 16, 3) := by decide +kernel
theorem dX4_points_75 : decode cX4_points 75 = .ok (.iload 5, 2) := by decide +kernel
theorem dX4_points_77 : decode cX4_points 77 = .ok (.iload_n 2, 1) := by decide +kernel
theorem dX4_points_78 : decode cX4_points 78 = .ok (.iload 6, 2) := by decide +kernel
theorem dX4_points_80 : decode cX4_points 80 = .ok (.imul, 1) := by decide +kernel
theorem dX4_points_81 : decode cX4_points 81 = .ok (.iadd, 1) := by decide +kernel
theorem dX4_points_82 : decode cX4_points 82 = .ok (.iload 4, 2) := by decide +kernel
theorem dX4_points_84 : decode cX4_points 84 = .ok (.irem, 1) := by decide +kernel
theorem dX4_points_85 : decode cX4_points 85 = .ok (.iload_n 3, 1) := by decide +kernel
theorem dX4_points_86 : decode cX4_points 86 = .ok (.irem, 1) := by decide +kernel
theorem dX4_points_87 : decode cX4_points 87 = .ok (.ireturn, 1) := by decide +kernel
theorem dX4_points_88 : decode cX4_points 88 = .ok (.iload_n 2, 1) := by decide +kernel
theorem dX4_points_89 : decode cX4_points 89 = .ok (.iconst 3, 1) := by decide +kernel
theorem dX4_points_90 : decode cX4_points 90 = .ok (.iload 4, 2) := by decide +kernel
theorem dX4_points_92 : decode cX4_points 92 = .ok (.imul, 1) := by decide +kernel
theorem dX4_points_93 : decode cX4_points 93 = .ok (.idiv, 1) := by decide +kernel
theorem dX4_points_94 : decode cX4_points 94 = .ok (.istore 7, 2) := by decide +kernel
theorem dX4_points_96 : decode cX4_points 96 = .ok (.iload_n 2, 1) := by decide +kernel
theorem dX4_points_97 : decode cX4_points 97 = .ok (.iconst 3, 1) := by decide +kernel
theorem dX4_points_98 : decode cX4_points 98 = .ok (.iload 4, 2) := by decide +kernel
theorem dX4_points_100 : decode cX4_points 100 = .ok (.imul, 1) := by decide +kernel
theorem dX4_points_101 : decode cX4_points 101 = .ok (.irem, 1) := by decide +kernel
theorem dX4_points_102 : decode cX4_points 102 = .ok (.istore 8, 2) := by decide +kernel
theorem dX4_points_104 : decode cX4_points 104 = .ok (.iload 6, 2) := by decide +kernel
theorem dX4_points_106 : decode cX4_points 106 = .ok (.iconst 1, 1) := by decide +kernel
theorem dX4_points_107 : decode cX4_points 107 = .ok (.isub, 1) := by decide +kernel
theorem dX4_points_108 : decode cX4_points 108 = .ok (.iload 7, 2) := by decide +kernel
theorem dX4_points_110 : decode cX4_points 110 = .ok (.iload 4, 2) := by decide +kernel
theorem dX4_points_112 : decode cX4_points 112 = .ok (.idiv, 1) := by decide +kernel
theorem dX4_points_113 : decode cX4_points 113 = .ok (.iadd, 1) := by decide +kernel
theorem dX4_points_114 : decode cX4_points 114 = .ok (.iload_n 3, 1) := by decide +kernel
theorem dX4_points_115 : decode cX4_points 115 = .ok (.irem, 1) := by decide +kernel
theorem dX4_points_116 : decode cX4_points 116 = .ok (.iconst 1, 1) := by decide +kernel
theorem dX4_points_117 : decode cX4_points 117 = .ok (.iadd, 1) := by decide +kernel
theorem dX4_points_118 : decode cX4_points 118 = .ok (.istore 9, 2) := by decide +kernel
theorem dX4_points_120 : decode cX4_points 120 = .ok (.iload 8, 2) := by decide +kernel
theorem dX4_points_122 : decode cX4_points 122 = .ok (.iconst 2, 1) := by decide +kernel
theorem dX4_points_123 : decode cX4_points 123 = .ok (.iload 4, 2) := by decide +kernel
theorem dX4_points_125 : decode cX4_points 125 = .ok (.imul, 1) := by decide +kernel
theorem dX4_points_126 : decode cX4_points 126 = .ok (.if_icmp .ge 20, 3) := by decide +kernel
theorem dX4_points_129 : decode cX4_points 129 = .ok (.iload 5, 2) := by decide +kernel
theorem dX4_points_131 : decode cX4_points 131 = .ok (.iload 7, 2) := by decide +kernel
theorem dX4_points_133 : decode cX4_points 133 = .ok (.iadd, 1) := by decide +kernel
theorem dX4_points_134 : decode cX4_points 134 = .ok (.iload 8, 2) := by decide +kernel
theorem dX4_points_136 : decode cX4_points 136 = .ok (.iload 9, 2) := by decide +kernel
theorem dX4_points_138 : decode cX4_points 138 = .ok (.imul, 1) := by decide +kernel
theorem dX4_points_139 : decode cX4_points 139 = .ok (.iadd, 1) := by decide +kernel
theorem dX4_points_140 : decode cX4_points 140 = .ok (.iload 4, 2) := by decide +kernel
theorem dX4_points_142 : decode cX4_points 142 = .ok (.irem, 1) := by decide +kernel
theorem dX4_points_143 : decode cX4_points 143 = .ok (.goto 5, 3) := by decide +kernel
theorem dX4_points_146 : decode cX4_points 146 = .ok (.iload 9, 2) := by decide +kernel
theorem dX4_points_148 : decode cX4_points 148 = .ok (.iload_n 3, 1) := by decide +kernel
theorem dX4_points_149 : decode cX4_points 149 = .ok (.irem, 1) := by decide +kernel
theorem dX4_points_150 : decode cX4_points 150 = .ok (.ireturn, 1) := by decide +kernel
theorem dX4_ones_0 : decode cX4_ones 0 = .ok (.iconst 0, 1) := by decide +kernel
theorem dX4_ones_1 : decode cX4_ones 1 = .ok (.istore_n 1, 1) := by decide +kernel
theorem dX4_ones_2 : decode cX4_ones 2 = .ok (.iconst 0, 1) := by decide +kernel
theorem dX4_ones_3 : decode cX4_ones 3 = .ok (.istore_n 2, 1) := by decide +kernel
theorem dX4_ones_4 : decode cX4_ones 4 = .ok (.iload_n 2, 1) := by decide +kernel
theorem dX4_ones_5 : decode cX4_ones 5 = .ok (.bipush 10, 2) := by decide +kernel
theorem dX4_ones_7 : decode cX4_ones 7 = .ok (.if_icmp .ge 17, 3) := by decide +kernel
theorem dX4_ones_10 : decode cX4_ones 10 = .ok (.iload_n 1, 1) := by decide +kernel
theorem dX4_ones_11 : decode cX4_ones 11 = .ok (.iload_n 0, 1) := by decide +kernel
theorem dX4_ones_12 : decode cX4_ones 12 = .ok (.iload_n 2, 1) := by decide +kernel
theorem dX4_ones_13 : decode cX4_ones 13 = .ok (.ishr, 1) := by decide +kernel
theorem dX4_ones_14 : decode cX4_ones 14 = .ok (.iconst 1, 1) := by decide +kernel
theorem dX4_ones_15 : decode cX4_ones 15 = .ok (.iand, 1) := by decide +kernel
theorem dX4_ones_16 : decode cX4_ones 16 = .ok (.iadd, 1) := by decide +kernel
theorem dX4_ones_17 : decode cX4_ones 17 = .ok (.istore_n 1, 1) := by decide +kernel
theorem dX4_ones_18 : decode cX4_ones 18 = .ok (.iinc 2 1, 3) := by decide +kernel
theorem dX4_ones_21 : decode cX4_ones 21 = .ok (.goto (-17), 3) := by decide +kernel
theorem dX4_ones_24 : decode cX4_ones 24 = .ok (.iload_n 1, 1) := by decide +kernel
theorem dX4_ones_25 : decode cX4_ones 25 = .ok (.ireturn, 1) := by decide +kernel
set_option maxRecDepth 20000 in
theorem ggX4_lands_X4_of : GoodIn wsX4_lands wsX4_of := goodIn_r _ [5, 6, 15, 16, 17, 18, 19, 20, 21, 22, 23, 24] (by decide +kernel) (by decide +kernel)
set_option maxRecDepth 20000 in
theorem gX4_lands_X4_of : GoodIn wsX4_lands (wsV RX4 50 RX4 yX4_of wsX4_of) := goodIn_app (goodIn_of _ (by decide +kernel)) ggX4_lands_X4_of
set_option maxRecDepth 20000 in
theorem ggX4_lands_X4_points : GoodIn wsX4_lands wsX4_points := goodIn_r _ [10, 6, 11, 1, 2, 3, 4, 5, 15, 16, 17, 18, 19, 20, 21, 22, 23, 24] (by decide +kernel) (by decide +kernel)
set_option maxRecDepth 20000 in
theorem gX4_lands_X4_points : GoodIn wsX4_lands (wsV RX4 54 RX4 yX4_points wsX4_points) := goodIn_app (goodIn_of _ (by decide +kernel)) ggX4_lands_X4_points
set_option maxRecDepth 20000 in
theorem ggX4_lands_X4_ones : GoodIn wsX4_lands wsX4_ones := goodIn_r _ [14] (by decide +kernel) (by decide +kernel)
set_option maxRecDepth 20000 in
theorem gX4_lands_X4_ones : GoodIn wsX4_lands (va_wsS RX4 57 yX4_ones wsX4_ones) := goodIn_app (goodIn_of _ (by decide +kernel)) ggX4_lands_X4_ones
theorem dX4_lands_0 : decode cX4_lands 0 = .ok (.aload_n 0, 1) := by decide +kernel
theorem dX4_lands_1 : decode cX4_lands 1 = .ok (.iload_n 1, 1) := by decide +kernel
theorem dX4_lands_2 : decode cX4_lands 2 = .ok (.iconst 4, 1) := by decide +kernel
theorem dX4_lands_3 : decode cX4_lands 3 = .ok (.invokevirtual 50, 3) := by decide +kernel
theorem dX4_lands_6 : decode cX4_lands 6 = .ok (.istore_n 3, 1) := by decide +kernel
theorem dX4_lands_7 : decode cX4_lands 7 = .ok (.aload_n 0, 1) := by decide +kernel
theorem dX4_lands_8 : decode cX4_lands 8 = .ok (.iload_n 1, 1) := by decide +kernel
theorem dX4_lands_9 : decode cX4_lands 9 = .ok (.iload_n 2, 1) := by decide +kernel
theorem dX4_lands_10 : decode cX4_lands 10 = .ok (.invokevirtual 54, 3) := by decide +kernel
theorem dX4_lands_13 : decode cX4_lands 13 = .ok (.istore 4, 2) := by decide +kernel
theorem dX4_lands_15 : decode cX4_lands 15 = .ok (.iload_n 3, 1) := by decide +kernel
theorem dX4_lands_16 : decode cX4_lands 16 = .ok (.ifCond .eq 13, 3) := by decide +kernel
theorem dX4_lands_19 : decode cX4_lands 19 = .ok (.iload_n 3, 1) := by decide +kernel
theorem dX4_lands_20 : decode cX4_lands 20 = .ok (.iload 4, 2) := by decide +kernel
theorem dX4_lands_22 : decode cX4_lands 22 = .ok (.ishr, 1) := by decide +kernel
theorem dX4_lands_23 : decode cX4_lands 23 = .ok (.iconst 1, 1) := by decide +kernel
theorem dX4_lands_24 : decode cX4_lands 24 = .ok (.iand, 1) := by decide +kernel
theorem dX4_lands_25 : decode cX4_lands 25 = .ok (.iconst 1, 1) := by decide +kernel
theorem dX4_lands_26 : decode cX4_lands 26 = .ok (.if_icmp .ne 14, 3) := by decide +kernel
theorem dX4_lands_29 : decode cX4_lands 29 = .ok (.iload_n 3, 1) := by decide +kernel
theorem dX4_lands_30 : decode cX4_lands 30 = .ok (.ifCond .ne 7, 3) := by decide +kernel
theorem dX4_lands_33 : decode cX4_lands 33 = .ok (.iconst (-1), 1) := by decide +kernel
theorem dX4_lands_34 : decode cX4_lands 34 = .ok (.goto 5, 3) := by decide +kernel
theorem dX4_lands_37 : decode cX4_lands 37 = .ok (.iload 4, 2) := by decide +kernel
theorem dX4_lands_39 : decode cX4_lands 39 = .ok (.ireturn, 1) := by decide +kernel
theorem dX4_lands_40 : decode cX4_lands 40 = .ok (.iload 4, 2) := by decide +kernel
theorem dX4_lands_42 : decode cX4_lands 42 = .ok (.iload_n 3, 1) := by decide +kernel
theorem dX4_lands_43 : decode cX4_lands 43 = .ok (.invokestatic 57, 3) := by decide +kernel
theorem dX4_lands_46 : decode cX4_lands 46 = .ok (.irem, 1) := by decide +kernel
theorem dX4_lands_47 : decode cX4_lands 47 = .ok (.istore 5, 2) := by decide +kernel
theorem dX4_lands_49 : decode cX4_lands 49 = .ok (.iconst 0, 1) := by decide +kernel
theorem dX4_lands_50 : decode cX4_lands 50 = .ok (.istore 6, 2) := by decide +kernel
theorem dX4_lands_52 : decode cX4_lands 52 = .ok (.iload_n 3, 1) := by decide +kernel
theorem dX4_lands_53 : decode cX4_lands 53 = .ok (.iload 6, 2) := by decide +kernel
theorem dX4_lands_55 : decode cX4_lands 55 = .ok (.ishr, 1) := by decide +kernel
theorem dX4_lands_56 : decode cX4_lands 56 = .ok (.iconst 1, 1) := by decide +kernel
theorem dX4_lands_57 : decode cX4_lands 57 = .ok (.iand, 1) := by decide +kernel
theorem dX4_lands_58 : decode cX4_lands 58 = .ok (.ifCond .eq 8, 3) := by decide +kernel
theorem dX4_lands_61 : decode cX4_lands 61 = .ok (.iload 5, 2) := by decide +kernel
theorem dX4_lands_63 : decode cX4_lands 63 = .ok (.ifCond .le 20, 3) := by decide +kernel
theorem dX4_lands_66 : decode cX4_lands 66 = .ok (.iload 5, 2) := by decide +kernel
theorem dX4_lands_68 : decode cX4_lands 68 = .ok (.iload_n 3, 1) := by decide +kernel
theorem dX4_lands_69 : decode cX4_lands 69 = .ok (.iload 6, 2) := by decide +kernel
theorem dX4_lands_71 : decode cX4_lands 71 = .ok (.ishr, 1) := by decide +kernel
theorem dX4_lands_72 : decode cX4_lands 72 = .ok (.iconst 1, 1) := by decide +kernel
theorem dX4_lands_73 : decode cX4_lands 73 = .ok (.iand, 1) := by decide +kernel
theorem dX4_lands_74 : decode cX4_lands 74 = .ok (.isub, 1) := by decide +kernel
theorem dX4_lands_75 : decode cX4_lands 75 = .ok (.istore 5, 2) := by decide +kernel
theorem dX4_lands_77 : decode cX4_lands 77 = .ok (.iinc 6 1, 3) := by decide +kernel
theorem dX4_lands_80 : decode cX4_lands 80 = .ok (.goto (-28), 3) := by decide +kernel
theorem dX4_lands_83 : decode cX4_lands 83 = .ok (.iload 6, 2) := by decide +kernel
theorem dX4_lands_85 : decode cX4_lands 85 = .ok (.ireturn, 1) := by decide +kernel
set_option maxRecDepth 20000 in
theorem ggX4_isShut_X4_in : GoodIn wsX4_isShut wsX4_in := goodIn_r _ [5] (by decide +kernel) (by decide +kernel)
set_option maxRecDepth 20000 in
theorem gX4_isShut_X4_in : GoodIn wsX4_isShut (va_wsS RX4 43 yX4_in wsX4_in) := goodIn_app (goodIn_of _ (by decide +kernel)) ggX4_isShut_X4_in
theorem dX4_isShut_0 : decode cX4_isShut 0 = .ok (.iconst 0, 1) := by decide +kernel
theorem dX4_isShut_1 : decode cX4_isShut 1 = .ok (.istore 4, 2) := by decide +kernel
theorem dX4_isShut_3 : decode cX4_isShut 3 = .ok (.iconst 0, 1) := by decide +kernel
theorem dX4_isShut_4 : decode cX4_isShut 4 = .ok (.istore 5, 2) := by decide +kernel
theorem dX4_isShut_6 : decode cX4_isShut 6 = .ok (.iload 5, 2) := by decide +kernel
theorem dX4_isShut_8 : decode cX4_isShut 8 = .ok (.aload_n 0, 1) := by decide +kernel
theorem dX4_isShut_9 : decode cX4_isShut 9 = .ok (.getfield 7, 3) := by decide +kernel
theorem dX4_isShut_12 : decode cX4_isShut 12 = .ok (.iconst 2, 1) := by decide +kernel
theorem dX4_isShut_13 : decode cX4_isShut 13 = .ok (.iaload, 1) := by decide +kernel
theorem dX4_isShut_14 : decode cX4_isShut 14 = .ok (.if_icmp .ge 114, 3) := by decide +kernel
theorem dX4_isShut_17 : decode cX4_isShut 17 = .ok (.bipush 28, 2) := by decide +kernel
theorem dX4_isShut_19 : decode cX4_isShut 19 = .ok (.iconst 4, 1) := by decide +kernel
theorem dX4_isShut_20 : decode cX4_isShut 20 = .ok (.iload 5, 2) := by decide +kernel
theorem dX4_isShut_22 : decode cX4_isShut 22 = .ok (.imul, 1) := by decide +kernel
theorem dX4_isShut_23 : decode cX4_isShut 23 = .ok (.iadd, 1) := by decide +kernel
theorem dX4_isShut_24 : decode cX4_isShut 24 = .ok (.istore 6, 2) := by decide +kernel
theorem dX4_isShut_26 : decode cX4_isShut 26 = .ok (.aload_n 0, 1) := by decide +kernel
theorem dX4_isShut_27 : decode cX4_isShut 27 = .ok (.getfield 7, 3) := by decide +kernel
theorem dX4_isShut_30 : decode cX4_isShut 30 = .ok (.iload 6, 2) := by decide +kernel
theorem dX4_isShut_32 : decode cX4_isShut 32 = .ok (.iaload, 1) := by decide +kernel
theorem dX4_isShut_33 : decode cX4_isShut 33 = .ok (.iconst (-1), 1) := by decide +kernel
theorem dX4_isShut_34 : decode cX4_isShut 34 = .ok (.if_icmp .eq 14, 3) := by decide +kernel
theorem dX4_isShut_37 : decode cX4_isShut 37 = .ok (.aload_n 0, 1) := by decide +kernel
theorem dX4_isShut_38 : decode cX4_isShut 38 = .ok (.getfield 7, 3) := by decide +kernel
theorem dX4_isShut_41 : decode cX4_isShut 41 = .ok (.iload 6, 2) := by decide +kernel
theorem dX4_isShut_43 : decode cX4_isShut 43 = .ok (.iaload, 1) := by decide +kernel
theorem dX4_isShut_44 : decode cX4_isShut 44 = .ok (.iload_n 1, 1) := by decide +kernel
theorem dX4_isShut_45 : decode cX4_isShut 45 = .ok (.if_icmp .ne 7, 3) := by decide +kernel
theorem dX4_isShut_48 : decode cX4_isShut 48 = .ok (.iconst 1, 1) := by decide +kernel
theorem dX4_isShut_49 : decode cX4_isShut 49 = .ok (.goto 4, 3) := by decide +kernel
theorem dX4_isShut_52 : decode cX4_isShut 52 = .ok (.iconst 0, 1) := by decide +kernel
theorem dX4_isShut_53 : decode cX4_isShut 53 = .ok (.istore 7, 2) := by decide +kernel
theorem dX4_isShut_55 : decode cX4_isShut 55 = .ok (.iload 4, 2) := by decide +kernel
theorem dX4_isShut_57 : decode cX4_isShut 57 = .ok (.ifCond .ne 58, 3) := by decide +kernel
theorem dX4_isShut_60 : decode cX4_isShut 60 = .ok (.iload 7, 2) := by decide +kernel
theorem dX4_isShut_62 : decode cX4_isShut 62 = .ok (.ifCond .eq 57, 3) := by decide +kernel
theorem dX4_isShut_65 : decode cX4_isShut 65 = .ok (.aload_n 0, 1) := by decide +kernel
theorem dX4_isShut_66 : decode cX4_isShut 66 = .ok (.getfield 7, 3) := by decide +kernel
theorem dX4_isShut_69 : decode cX4_isShut 69 = .ok (.iload 6, 2) := by decide +kernel
theorem dX4_isShut_71 : decode cX4_isShut 71 = .ok (.iconst 1, 1) := by decide +kernel
theorem dX4_isShut_72 : decode cX4_isShut 72 = .ok (.iadd, 1) := by decide +kernel
theorem dX4_isShut_73 : decode cX4_isShut 73 = .ok (.iaload, 1) := by decide +kernel
theorem dX4_isShut_74 : decode cX4_isShut 74 = .ok (.iload_n 2, 1) := by decide +kernel
theorem dX4_isShut_75 : decode cX4_isShut 75 = .ok (.if_icmp .ne 44, 3) := by decide +kernel
theorem dX4_isShut_78 : decode cX4_isShut 78 = .ok (.iload_n 3, 1) := by decide +kernel
theorem dX4_isShut_79 : decode cX4_isShut 79 = .ok (.aload_n 0, 1) := by decide +kernel
theorem dX4_isShut_80 : decode cX4_isShut 80 = .ok (.getfield 7, 3) := by decide +kernel
theorem dX4_isShut_83 : decode cX4_isShut 83 = .ok (.iload 6, 2) := by decide +kernel
theorem dX4_isShut_85 : decode cX4_isShut 85 = .ok (.iconst 2, 1) := by decide +kernel
theorem dX4_isShut_86 : decode cX4_isShut 86 = .ok (.iadd, 1) := by decide +kernel
theorem dX4_isShut_87 : decode cX4_isShut 87 = .ok (.iaload, 1) := by decide +kernel
theorem dX4_isShut_88 : decode cX4_isShut 88 = .ok (.aload_n 0, 1) := by decide +kernel
theorem dX4_isShut_89 : decode cX4_isShut 89 = .ok (.getfield 7, 3) := by decide +kernel
theorem dX4_isShut_92 : decode cX4_isShut 92 = .ok (.iload 6, 2) := by decide +kernel
theorem dX4_isShut_94 : decode cX4_isShut 94 = .ok (.iconst 2, 1) := by decide +kernel
theorem dX4_isShut_95 : decode cX4_isShut 95 = .ok (.iadd, 1) := by decide +kernel
theorem dX4_isShut_96 : decode cX4_isShut 96 = .ok (.iaload, 1) := by decide +kernel
theorem dX4_isShut_97 : decode cX4_isShut 97 = .ok (.aload_n 0, 1) := by decide +kernel
theorem dX4_isShut_98 : decode cX4_isShut 98 = .ok (.getfield 7, 3) := by decide +kernel
theorem dX4_isShut_101 : decode cX4_isShut 101 = .ok (.iload 6, 2) := by decide +kernel
theorem dX4_isShut_103 : decode cX4_isShut 103 = .ok (.iconst 3, 1) := by decide +kernel
theorem dX4_isShut_104 : decode cX4_isShut 104 = .ok (.iadd, 1) := by decide +kernel
theorem dX4_isShut_105 : decode cX4_isShut 105 = .ok (.iaload, 1) := by decide +kernel
theorem dX4_isShut_106 : decode cX4_isShut 106 = .ok (.iadd, 1) := by decide +kernel
theorem dX4_isShut_107 : decode cX4_isShut 107 = .ok (.iconst 1, 1) := by decide +kernel
theorem dX4_isShut_108 : decode cX4_isShut 108 = .ok (.isub, 1) := by decide +kernel
theorem dX4_isShut_109 : decode cX4_isShut 109 = .ok (.invokestatic 43, 3) := by decide +kernel
theorem dX4_isShut_112 : decode cX4_isShut 112 = .ok (.ifCond .eq 7, 3) := by decide +kernel
theorem dX4_isShut_115 : decode cX4_isShut 115 = .ok (.iconst 1, 1) := by decide +kernel
theorem dX4_isShut_116 : decode cX4_isShut 116 = .ok (.goto 4, 3) := by decide +kernel
theorem dX4_isShut_119 : decode cX4_isShut 119 = .ok (.iconst 0, 1) := by decide +kernel
theorem dX4_isShut_120 : decode cX4_isShut 120 = .ok (.istore 4, 2) := by decide +kernel
theorem dX4_isShut_122 : decode cX4_isShut 122 = .ok (.iinc 5 1, 3) := by decide +kernel
theorem dX4_isShut_125 : decode cX4_isShut 125 = .ok (.goto (-119), 3) := by decide +kernel
theorem dX4_isShut_128 : decode cX4_isShut 128 = .ok (.iload 4, 2) := by decide +kernel
theorem dX4_isShut_130 : decode cX4_isShut 130 = .ok (.ireturn, 1) := by decide +kernel
set_option maxRecDepth 20000 in
theorem ggX4_whyNot_X4_of : GoodIn wsX4_whyNot wsX4_of := goodIn_r _ [5, 6, 26, 27, 28, 29, 30, 31, 32, 33, 34, 35] (by decide +kernel) (by decide +kernel)
set_option maxRecDepth 20000 in
theorem gX4_whyNot_X4_of : GoodIn wsX4_whyNot (wsV RX4 50 RX4 yX4_of wsX4_of) := goodIn_app (goodIn_of _ (by decide +kernel)) ggX4_whyNot_X4_of
set_option maxRecDepth 20000 in
theorem ggX4_whyNot_X4_lands : GoodIn wsX4_whyNot wsX4_lands := goodIn_r _ [10, 1, 2, 3, 4, 5, 6, 11, 12, 13, 14, 15, 16, 17, 18, 26, 27, 28, 29, 30, 31, 32, 33, 34, 35] (by decide +kernel) (by decide +kernel)
set_option maxRecDepth 20000 in
theorem gX4_whyNot_X4_lands : GoodIn wsX4_whyNot (wsV RX4 61 RX4 yX4_lands wsX4_lands) := goodIn_app (goodIn_of _ (by decide +kernel)) ggX4_whyNot_X4_lands
set_option maxRecDepth 20000 in
theorem ggX4_whyNot_X4_isShut : GoodIn wsX4_whyNot wsX4_isShut := goodIn_r _ [22, 6, 23, 24, 4, 25, 26, 27, 28, 29, 30, 31, 32, 33, 34, 35] (by decide +kernel) (by decide +kernel)
set_option maxRecDepth 20000 in
theorem gX4_whyNot_X4_isShut : GoodIn wsX4_whyNot (wsV RX4 64 RX4 yX4_isShut wsX4_isShut) := goodIn_app (goodIn_of _ (by decide +kernel)) ggX4_whyNot_X4_isShut
theorem dX4_whyNot_0 : decode cX4_whyNot 0 = .ok (.iload_n 2, 1) := by decide +kernel
theorem dX4_whyNot_1 : decode cX4_whyNot 1 = .ok (.aload_n 0, 1) := by decide +kernel
theorem dX4_whyNot_2 : decode cX4_whyNot 2 = .ok (.iload_n 1, 1) := by decide +kernel
theorem dX4_whyNot_3 : decode cX4_whyNot 3 = .ok (.iconst 3, 1) := by decide +kernel
theorem dX4_whyNot_4 : decode cX4_whyNot 4 = .ok (.invokevirtual 50, 3) := by decide +kernel
theorem dX4_whyNot_7 : decode cX4_whyNot 7 = .ok (.isub, 1) := by decide +kernel
theorem dX4_whyNot_8 : decode cX4_whyNot 8 = .ok (.istore_n 3, 1) := by decide +kernel
theorem dX4_whyNot_9 : decode cX4_whyNot 9 = .ok (.iload_n 3, 1) := by decide +kernel
theorem dX4_whyNot_10 : decode cX4_whyNot 10 = .ok (.ifCond .ge 5, 3) := by decide +kernel
theorem dX4_whyNot_13 : decode cX4_whyNot 13 = .ok (.iconst 1, 1) := by decide +kernel
theorem dX4_whyNot_14 : decode cX4_whyNot 14 = .ok (.ireturn, 1) := by decide +kernel
theorem dX4_whyNot_15 : decode cX4_whyNot 15 = .ok (.aload_n 0, 1) := by decide +kernel
theorem dX4_whyNot_16 : decode cX4_whyNot 16 = .ok (.iload_n 1, 1) := by decide +kernel
theorem dX4_whyNot_17 : decode cX4_whyNot 17 = .ok (.iconst 4, 1) := by decide +kernel
theorem dX4_whyNot_18 : decode cX4_whyNot 18 = .ok (.invokevirtual 50, 3) := by decide +kernel
theorem dX4_whyNot_21 : decode cX4_whyNot 21 = .ok (.ifCond .ne 7, 3) := by decide +kernel
theorem dX4_whyNot_24 : decode cX4_whyNot 24 = .ok (.iconst 2, 1) := by decide +kernel
theorem dX4_whyNot_25 : decode cX4_whyNot 25 = .ok (.goto 23, 3) := by decide +kernel
theorem dX4_whyNot_28 : decode cX4_whyNot 28 = .ok (.aload_n 0, 1) := by decide +kernel
theorem dX4_whyNot_29 : decode cX4_whyNot 29 = .ok (.iload_n 1, 1) := by decide +kernel
theorem dX4_whyNot_30 : decode cX4_whyNot 30 = .ok (.aload_n 0, 1) := by decide +kernel
theorem dX4_whyNot_31 : decode cX4_whyNot 31 = .ok (.iload_n 1, 1) := by decide +kernel
theorem dX4_whyNot_32 : decode cX4_whyNot 32 = .ok (.iload_n 3, 1) := by decide +kernel
theorem dX4_whyNot_33 : decode cX4_whyNot 33 = .ok (.invokevirtual 61, 3) := by decide +kernel
theorem dX4_whyNot_36 : decode cX4_whyNot 36 = .ok (.iload_n 2, 1) := by decide +kernel
theorem dX4_whyNot_37 : decode cX4_whyNot 37 = .ok (.invokevirtual 64, 3) := by decide +kernel
theorem dX4_whyNot_40 : decode cX4_whyNot 40 = .ok (.ifCond .eq 7, 3) := by decide +kernel
theorem dX4_whyNot_43 : decode cX4_whyNot 43 = .ok (.iconst 3, 1) := by decide +kernel
theorem dX4_whyNot_44 : decode cX4_whyNot 44 = .ok (.goto 4, 3) := by decide +kernel
theorem dX4_whyNot_47 : decode cX4_whyNot 47 = .ok (.iconst 0, 1) := by decide +kernel
theorem dX4_whyNot_48 : decode cX4_whyNot 48 = .ok (.ireturn, 1) := by decide +kernel
set_option maxRecDepth 20000 in
theorem ggX4_place_X4_whyNot : GoodIn wsX4_place wsX4_whyNot := goodIn_r _ [5, 6, 7, 8, 4, 9, 10, 11, 12, 13, 14, 15, 16, 17, 18, 19, 20, 21, 22, 23, 24, 25, 26, 27, 28, 29, 30, 31, 32, 33, 34, 35, 36, 37, 38, 39] (by decide +kernel) (by decide +kernel)
set_option maxRecDepth 20000 in
theorem gX4_place_X4_whyNot : GoodIn wsX4_place (wsV RX4 67 RX4 yX4_whyNot wsX4_whyNot) := goodIn_app (goodIn_of _ (by decide +kernel)) ggX4_place_X4_whyNot
set_option maxRecDepth 20000 in
theorem ggX4_place_X4_of : GoodIn wsX4_place wsX4_of := goodIn_r _ [9, 10, 30, 31, 32, 33, 34, 35, 36, 37, 38, 39] (by decide +kernel) (by decide +kernel)
set_option maxRecDepth 20000 in
theorem gX4_place_X4_of : GoodIn wsX4_place (wsV RX4 50 RX4 yX4_of wsX4_of) := goodIn_app (goodIn_of _ (by decide +kernel)) ggX4_place_X4_of
set_option maxRecDepth 20000 in
theorem ggX4_place_X4_lands : GoodIn wsX4_place wsX4_lands := goodIn_r _ [14, 6, 7, 8, 4, 9, 10, 15, 16, 17, 18, 19, 20, 21, 22, 30, 31, 32, 33, 34, 35, 36, 37, 38, 39] (by decide +kernel) (by decide +kernel)
set_option maxRecDepth 20000 in
theorem gX4_place_X4_lands : GoodIn wsX4_place (wsV RX4 61 RX4 yX4_lands wsX4_lands) := goodIn_app (goodIn_of _ (by decide +kernel)) ggX4_place_X4_lands
theorem dX4_place_0 : decode cX4_place 0 = .ok (.aload_n 0, 1) := by decide +kernel
theorem dX4_place_1 : decode cX4_place 1 = .ok (.iload_n 1, 1) := by decide +kernel
theorem dX4_place_2 : decode cX4_place 2 = .ok (.iload_n 2, 1) := by decide +kernel
theorem dX4_place_3 : decode cX4_place 3 = .ok (.invokevirtual 67, 3) := by decide +kernel
theorem dX4_place_6 : decode cX4_place 6 = .ok (.ifCond .ne 19, 3) := by decide +kernel
theorem dX4_place_9 : decode cX4_place 9 = .ok (.aload_n 0, 1) := by decide +kernel
theorem dX4_place_10 : decode cX4_place 10 = .ok (.iload_n 1, 1) := by decide +kernel
theorem dX4_place_11 : decode cX4_place 11 = .ok (.iload_n 2, 1) := by decide +kernel
theorem dX4_place_12 : decode cX4_place 12 = .ok (.aload_n 0, 1) := by decide +kernel
theorem dX4_place_13 : decode cX4_place 13 = .ok (.iload_n 1, 1) := by decide +kernel
theorem dX4_place_14 : decode cX4_place 14 = .ok (.iconst 3, 1) := by decide +kernel
theorem dX4_place_15 : decode cX4_place 15 = .ok (.invokevirtual 50, 3) := by decide +kernel
theorem dX4_place_18 : decode cX4_place 18 = .ok (.isub, 1) := by decide +kernel
theorem dX4_place_19 : decode cX4_place 19 = .ok (.invokevirtual 61, 3) := by decide +kernel
theorem dX4_place_22 : decode cX4_place 22 = .ok (.goto 4, 3) := by decide +kernel
theorem dX4_place_25 : decode cX4_place 25 = .ok (.iconst (-1), 1) := by decide +kernel
theorem dX4_place_26 : decode cX4_place 26 = .ok (.ireturn, 1) := by decide +kernel
set_option maxRecDepth 20000 in
theorem ggX4_isMet_X4_place : GoodIn wsX4_isMet wsX4_place := goodIn_r _ [5, 6, 7, 8, 4, 9, 10, 11, 12, 13, 14, 15, 16, 17, 18, 19, 20, 21, 22, 23, 24, 25, 26, 27, 28, 29, 30, 31, 32, 33, 34, 35, 36, 37, 38, 39, 40, 41, 42, 43] (by decide +kernel) (by decide +kernel)
set_option maxRecDepth 20000 in
theorem gX4_isMet_X4_place : GoodIn wsX4_isMet (wsV RX4 70 RX4 yX4_place wsX4_place) := goodIn_app (goodIn_of _ (by decide +kernel)) ggX4_isMet_X4_place
theorem dX4_isMet_0 : decode cX4_isMet 0 = .ok (.aload_n 0, 1) := by decide +kernel
theorem dX4_isMet_1 : decode cX4_isMet 1 = .ok (.iload_n 1, 1) := by decide +kernel
theorem dX4_isMet_2 : decode cX4_isMet 2 = .ok (.iload_n 3, 1) := by decide +kernel
theorem dX4_isMet_3 : decode cX4_isMet 3 = .ok (.invokevirtual 70, 3) := by decide +kernel
theorem dX4_isMet_6 : decode cX4_isMet 6 = .ok (.istore 4, 2) := by decide +kernel
theorem dX4_isMet_8 : decode cX4_isMet 8 = .ok (.iload 4, 2) := by decide +kernel
theorem dX4_isMet_10 : decode cX4_isMet 10 = .ok (.iconst (-1), 1) := by decide +kernel
theorem dX4_isMet_11 : decode cX4_isMet 11 = .ok (.if_icmp .eq 18, 3) := by decide +kernel
theorem dX4_isMet_14 : decode cX4_isMet 14 = .ok (.iload 4, 2) := by decide +kernel
theorem dX4_isMet_16 : decode cX4_isMet 16 = .ok (.aload_n 0, 1) := by decide +kernel
theorem dX4_isMet_17 : decode cX4_isMet 17 = .ok (.iload_n 2, 1) := by decide +kernel
theorem dX4_isMet_18 : decode cX4_isMet 18 = .ok (.iload_n 3, 1) := by decide +kernel
theorem dX4_isMet_19 : decode cX4_isMet 19 = .ok (.invokevirtual 70, 3) := by decide +kernel
theorem dX4_isMet_22 : decode cX4_isMet 22 = .ok (.if_icmp .ne 7, 3) := by decide +kernel
theorem dX4_isMet_25 : decode cX4_isMet 25 = .ok (.iconst 1, 1) := by decide +kernel
theorem dX4_isMet_26 : decode cX4_isMet 26 = .ok (.goto 4, 3) := by decide +kernel
theorem dX4_isMet_29 : decode cX4_isMet 29 = .ok (.iconst 0, 1) := by decide +kernel
theorem dX4_isMet_30 : decode cX4_isMet 30 = .ok (.ireturn, 1) := by decide +kernel
theorem dX4_anew_0 : decode cX4_anew 0 = .ok (.aload_n 0, 1) := by decide +kernel
theorem dX4_anew_1 : decode cX4_anew 1 = .ok (.iconst 0, 1) := by decide +kernel
theorem dX4_anew_2 : decode cX4_anew 2 = .ok (.putfield 73, 3) := by decide +kernel
theorem dX4_anew_5 : decode cX4_anew 5 = .ok (.iconst 0, 1) := by decide +kernel
theorem dX4_anew_6 : decode cX4_anew 6 = .ok (.istore_n 1, 1) := by decide +kernel
theorem dX4_anew_7 : decode cX4_anew 7 = .ok (.iload_n 1, 1) := by decide +kernel
theorem dX4_anew_8 : decode cX4_anew 8 = .ok (.iconst 5, 1) := by decide +kernel
theorem dX4_anew_9 : decode cX4_anew 9 = .ok (.if_icmp .ge 16, 3) := by decide +kernel
theorem dX4_anew_12 : decode cX4_anew 12 = .ok (.aload_n 0, 1) := by decide +kernel
theorem dX4_anew_13 : decode cX4_anew 13 = .ok (.getfield 23, 3) := by decide +kernel
theorem dX4_anew_16 : decode cX4_anew 16 = .ok (.iload_n 1, 1) := by decide +kernel
theorem dX4_anew_17 : decode cX4_anew 17 = .ok (.iload_n 1, 1) := by decide +kernel
theorem dX4_anew_18 : decode cX4_anew 18 = .ok (.iastore, 1) := by decide +kernel
theorem dX4_anew_19 : decode cX4_anew 19 = .ok (.iinc 1 1, 3) := by decide +kernel
theorem dX4_anew_22 : decode cX4_anew 22 = .ok (.goto (-15), 3) := by decide +kernel
theorem dX4_anew_25 : decode cX4_anew 25 = .ok (.return_, 1) := by decide +kernel
set_option maxRecDepth 20000 in
theorem ggX4_note_X4_bring : GoodIn wsX4_note wsX4_bring := goodIn_r _ [7] (by decide +kernel) (by decide +kernel)
set_option maxRecDepth 20000 in
theorem gX4_note_X4_bring : GoodIn wsX4_note (va_wsS RX4 79 yX4_bring wsX4_bring) := goodIn_app (goodIn_of _ (by decide +kernel)) ggX4_note_X4_bring
set_option maxRecDepth 20000 in
theorem ggX4_note_X4_anew : GoodIn wsX4_note wsX4_anew := goodIn_r _ [11, 12, 13, 14, 15, 16, 17, 18, 19, 20, 21, 22, 23] (by decide +kernel) (by decide +kernel)
set_option maxRecDepth 20000 in
theorem gX4_note_X4_anew : GoodIn wsX4_note (wsV RX4 32 RX4 yX4_anew wsX4_anew) := goodIn_app (goodIn_of _ (by decide +kernel)) ggX4_note_X4_anew
theorem dX4_note_0 : decode cX4_note 0 = .ok (.aload_n 0, 1) := by decide +kernel
theorem dX4_note_1 : decode cX4_note 1 = .ok (.getfield 76, 3) := by decide +kernel
theorem dX4_note_4 : decode cX4_note 4 = .ok (.bipush 12, 2) := by decide +kernel
theorem dX4_note_6 : decode cX4_note 6 = .ok (.if_icmp .ne 30, 3) := by decide +kernel
theorem dX4_note_9 : decode cX4_note 9 = .ok (.aload_n 0, 1) := by decide +kernel
theorem dX4_note_10 : decode cX4_note 10 = .ok (.getfield 13, 3) := by decide +kernel
theorem dX4_note_13 : decode cX4_note 13 = .ok (.bipush 60, 2) := by decide +kernel
theorem dX4_note_15 : decode cX4_note 15 = .ok (.aload_n 0, 1) := by decide +kernel
theorem dX4_note_16 : decode cX4_note 16 = .ok (.getfield 13, 3) := by decide +kernel
theorem dX4_note_19 : decode cX4_note 19 = .ok (.iconst 0, 1) := by decide +kernel
theorem dX4_note_20 : decode cX4_note 20 = .ok (.sipush 660, 3) := by decide +kernel
theorem dX4_note_23 : decode cX4_note 23 = .ok (.invokestatic 79, 3) := by decide +kernel
theorem dX4_note_26 : decode cX4_note 26 = .ok (.aload_n 0, 1) := by decide +kernel
theorem dX4_note_27 : decode cX4_note 27 = .ok (.dup, 1) := by decide +kernel
theorem dX4_note_28 : decode cX4_note 28 = .ok (.getfield 76, 3) := by decide +kernel
theorem dX4_note_31 : decode cX4_note 31 = .ok (.iconst 1, 1) := by decide +kernel
theorem dX4_note_32 : decode cX4_note 32 = .ok (.isub, 1) := by decide +kernel
theorem dX4_note_33 : decode cX4_note 33 = .ok (.putfield 76, 3) := by decide +kernel
theorem dX4_note_36 : decode cX4_note 36 = .ok (.aload_n 0, 1) := by decide +kernel
theorem dX4_note_37 : decode cX4_note 37 = .ok (.getfield 7, 3) := by decide +kernel
theorem dX4_note_40 : decode cX4_note 40 = .ok (.iconst 0, 1) := by decide +kernel
theorem dX4_note_41 : decode cX4_note 41 = .ok (.aload_n 0, 1) := by decide +kernel
theorem dX4_note_42 : decode cX4_note 42 = .ok (.getfield 13, 3) := by decide +kernel
theorem dX4_note_45 : decode cX4_note 45 = .ok (.bipush 60, 2) := by decide +kernel
theorem dX4_note_47 : decode cX4_note 47 = .ok (.aload_n 0, 1) := by decide +kernel
theorem dX4_note_48 : decode cX4_note 48 = .ok (.getfield 76, 3) := by decide +kernel
theorem dX4_note_51 : decode cX4_note 51 = .ok (.imul, 1) := by decide +kernel
theorem dX4_note_52 : decode cX4_note 52 = .ok (.bipush 60, 2) := by decide +kernel
theorem dX4_note_54 : decode cX4_note 54 = .ok (.invokestatic 79, 3) := by decide +kernel
theorem dX4_note_57 : decode cX4_note 57 = .ok (.aload_n 0, 1) := by decide +kernel
theorem dX4_note_58 : decode cX4_note 58 = .ok (.dup, 1) := by decide +kernel
theorem dX4_note_59 : decode cX4_note 59 = .ok (.getfield 76, 3) := by decide +kernel
theorem dX4_note_62 : decode cX4_note 62 = .ok (.iconst 1, 1) := by decide +kernel
theorem dX4_note_63 : decode cX4_note 63 = .ok (.iadd, 1) := by decide +kernel
theorem dX4_note_64 : decode cX4_note 64 = .ok (.putfield 76, 3) := by decide +kernel
theorem dX4_note_67 : decode cX4_note 67 = .ok (.aload_n 0, 1) := by decide +kernel
theorem dX4_note_68 : decode cX4_note 68 = .ok (.invokevirtual 32, 3) := by decide +kernel
theorem dX4_note_71 : decode cX4_note 71 = .ok (.return_, 1) := by decide +kernel
set_option maxRecDepth 20000 in
theorem ggX4_channels_X4_in : GoodIn wsX4_channels wsX4_in := goodIn_r _ [8] (by decide +kernel) (by decide +kernel)
set_option maxRecDepth 20000 in
theorem gX4_channels_X4_in : GoodIn wsX4_channels (va_wsS RX4 43 yX4_in wsX4_in) := goodIn_app (goodIn_of _ (by decide +kernel)) ggX4_channels_X4_in
set_option maxRecDepth 20000 in
theorem ggX4_channels_X4_layPrime : GoodIn wsX4_channels wsX4_layPrime := goodIn_r _ [12, 2, 4, 13, 14, 7, 15, 22, 23, 24, 25, 26, 27, 28, 29, 30, 31] (by decide +kernel) (by decide +kernel)
set_option maxRecDepth 20000 in
theorem gX4_channels_X4_layPrime : GoodIn wsX4_channels (wsV RX4 29 RX4 yX4_layPrime wsX4_layPrime) := goodIn_app (goodIn_of _ (by decide +kernel)) ggX4_channels_X4_layPrime
set_option maxRecDepth 20000 in
theorem ggX4_channels_X4_anew : GoodIn wsX4_channels wsX4_anew := goodIn_r _ [19, 20, 21, 22, 23, 24, 25, 26, 27, 28, 29, 30, 31] (by decide +kernel) (by decide +kernel)
set_option maxRecDepth 20000 in
theorem gX4_channels_X4_anew : GoodIn wsX4_channels (wsV RX4 32 RX4 yX4_anew wsX4_anew) := goodIn_app (goodIn_of _ (by decide +kernel)) ggX4_channels_X4_anew
theorem dX4_channels_0 : decode cX4_channels 0 = .ok (.iload_n 1, 1) := by decide +kernel
theorem dX4_channels_1 : decode cX4_channels 1 = .ok (.iconst 2, 1) := by decide +kernel
theorem dX4_channels_2 : decode cX4_channels 2 = .ok (.bipush 10, 2) := by decide +kernel
theorem dX4_channels_4 : decode cX4_channels 4 = .ok (.invokestatic 43, 3) := by decide +kernel
theorem dX4_channels_7 : decode cX4_channels 7 = .ok (.ifCond .ne 6, 3) := by decide +kernel
theorem dX4_channels_10 : decode cX4_channels 10 = .ok (.ldc 83, 2) := by decide +kernel
theorem dX4_channels_12 : decode cX4_channels 12 = .ok (.ireturn, 1) := by decide +kernel
theorem dX4_channels_13 : decode cX4_channels 13 = .ok (.aload_n 0, 1) := by decide +kernel
theorem dX4_channels_14 : decode cX4_channels 14 = .ok (.getfield 7, 3) := by decide +kernel
theorem dX4_channels_17 : decode cX4_channels 17 = .ok (.iconst 0, 1) := by decide +kernel
theorem dX4_channels_18 : decode cX4_channels 18 = .ok (.iload_n 1, 1) := by decide +kernel
theorem dX4_channels_19 : decode cX4_channels 19 = .ok (.iastore, 1) := by decide +kernel
theorem dX4_channels_20 : decode cX4_channels 20 = .ok (.aload_n 0, 1) := by decide +kernel
theorem dX4_channels_21 : decode cX4_channels 21 = .ok (.getfield 7, 3) := by decide +kernel
theorem dX4_channels_24 : decode cX4_channels 24 = .ok (.iconst 1, 1) := by decide +kernel
theorem dX4_channels_25 : decode cX4_channels 25 = .ok (.iconst 0, 1) := by decide +kernel
theorem dX4_channels_26 : decode cX4_channels 26 = .ok (.iastore, 1) := by decide +kernel
theorem dX4_channels_27 : decode cX4_channels 27 = .ok (.aload_n 0, 1) := by decide +kernel
theorem dX4_channels_28 : decode cX4_channels 28 = .ok (.getfield 7, 3) := by decide +kernel
theorem dX4_channels_31 : decode cX4_channels 31 = .ok (.iconst 2, 1) := by decide +kernel
theorem dX4_channels_32 : decode cX4_channels 32 = .ok (.iconst 0, 1) := by decide +kernel
theorem dX4_channels_33 : decode cX4_channels 33 = .ok (.iastore, 1) := by decide +kernel
theorem dX4_channels_34 : decode cX4_channels 34 = .ok (.aload_n 0, 1) := by decide +kernel
theorem dX4_channels_35 : decode cX4_channels 35 = .ok (.iconst 0, 1) := by decide +kernel
theorem dX4_channels_36 : decode cX4_channels 36 = .ok (.putfield 76, 3) := by decide +kernel
theorem dX4_channels_39 : decode cX4_channels 39 = .ok (.aload_n 0, 1) := by decide +kernel
theorem dX4_channels_40 : decode cX4_channels 40 = .ok (.invokevirtual 29, 3) := by decide +kernel
theorem dX4_channels_43 : decode cX4_channels 43 = .ok (.aload_n 0, 1) := by decide +kernel
theorem dX4_channels_44 : decode cX4_channels 44 = .ok (.invokevirtual 32, 3) := by decide +kernel
theorem dX4_channels_47 : decode cX4_channels 47 = .ok (.aload_n 0, 1) := by decide +kernel
theorem dX4_channels_48 : decode cX4_channels 48 = .ok (.getfield 35, 3) := by decide +kernel
theorem dX4_channels_51 : decode cX4_channels 51 = .ok (.ireturn, 1) := by decide +kernel
set_option maxRecDepth 20000 in
theorem ggX4_isBound_X4_in : GoodIn wsX4_isBound wsX4_in := goodIn_r _ [4] (by decide +kernel) (by decide +kernel)
set_option maxRecDepth 20000 in
theorem gX4_isBound_X4_in : GoodIn wsX4_isBound (va_wsS RX4 43 yX4_in wsX4_in) := goodIn_app (goodIn_of _ (by decide +kernel)) ggX4_isBound_X4_in
theorem dX4_isBound_0 : decode cX4_isBound 0 = .ok (.iload_n 1, 1) := by decide +kernel
theorem dX4_isBound_1 : decode cX4_isBound 1 = .ok (.iconst 0, 1) := by decide +kernel
theorem dX4_isBound_2 : decode cX4_isBound 2 = .ok (.iload_n 0, 1) := by decide +kernel
theorem dX4_isBound_3 : decode cX4_isBound 3 = .ok (.ifCond .ne 7, 3) := by decide +kernel
theorem dX4_isBound_6 : decode cX4_isBound 6 = .ok (.iconst 3, 1) := by decide +kernel
theorem dX4_isBound_7 : decode cX4_isBound 7 = .ok (.goto 16, 3) := by decide +kernel
theorem dX4_isBound_10 : decode cX4_isBound 10 = .ok (.iload_n 0, 1) := by decide +kernel
theorem dX4_isBound_11 : decode cX4_isBound 11 = .ok (.iconst 3, 1) := by decide +kernel
theorem dX4_isBound_12 : decode cX4_isBound 12 = .ok (.if_icmp .ne 9, 3) := by decide +kernel
theorem dX4_isBound_15 : decode cX4_isBound 15 = .ok (.sipush 200, 3) := by decide +kernel
theorem dX4_isBound_18 : decode cX4_isBound 18 = .ok (.goto 5, 3) := by decide +kernel
theorem dX4_isBound_21 : decode cX4_isBound 21 = .ok (.bipush 99, 2) := by decide +kernel
theorem dX4_isBound_23 : decode cX4_isBound 23 = .ok (.invokestatic 43, 3) := by decide +kernel
theorem dX4_isBound_26 : decode cX4_isBound 26 = .ok (.ireturn, 1) := by decide +kernel
set_option maxRecDepth 20000 in
theorem ggX4_user_X4_isBound : GoodIn wsX4_user wsX4_isBound := goodIn_r _ [7, 8, 9, 6, 10] (by decide +kernel) (by decide +kernel)
set_option maxRecDepth 20000 in
theorem gX4_user_X4_isBound : GoodIn wsX4_user (va_wsS RX4 84 yX4_isBound wsX4_isBound) := goodIn_app (goodIn_of _ (by decide +kernel)) ggX4_user_X4_isBound
set_option maxRecDepth 20000 in
theorem ggX4_user_X4_note : GoodIn wsX4_user wsX4_note := goodIn_r _ [14, 15, 16, 2, 17, 18, 6, 19, 20, 21, 22, 23, 24, 25, 30, 31, 32, 33, 34, 35, 36, 37, 38, 39] (by decide +kernel) (by decide +kernel)
set_option maxRecDepth 20000 in
theorem gX4_user_X4_note : GoodIn wsX4_user (wsV RX4 89 RX4 yX4_note wsX4_note) := goodIn_app (goodIn_of _ (by decide +kernel)) ggX4_user_X4_note
set_option maxRecDepth 20000 in
theorem ggX4_user_X4_all : GoodIn wsX4_user wsX4_all := goodIn_r _ [29, 2, 30, 31, 32, 33, 34, 35, 36, 37, 38, 39] (by decide +kernel) (by decide +kernel)
set_option maxRecDepth 20000 in
theorem gX4_user_X4_all : GoodIn wsX4_user (wsV RX4 92 RX4 yX4_all wsX4_all) := goodIn_app (goodIn_of _ (by decide +kernel)) ggX4_user_X4_all
theorem dX4_user_0 : decode cX4_user 0 = .ok (.iconst 0, 1) := by decide +kernel
theorem dX4_user_1 : decode cX4_user 1 = .ok (.iload_n 1, 1) := by decide +kernel
theorem dX4_user_2 : decode cX4_user 2 = .ok (.invokestatic 84, 3) := by decide +kernel
theorem dX4_user_5 : decode cX4_user 5 = .ok (.ifCond .eq 28, 3) := by decide +kernel
theorem dX4_user_8 : decode cX4_user 8 = .ok (.iconst 1, 1) := by decide +kernel
theorem dX4_user_9 : decode cX4_user 9 = .ok (.iload_n 2, 1) := by decide +kernel
theorem dX4_user_10 : decode cX4_user 10 = .ok (.invokestatic 84, 3) := by decide +kernel
theorem dX4_user_13 : decode cX4_user 13 = .ok (.ifCond .eq 20, 3) := by decide +kernel
theorem dX4_user_16 : decode cX4_user 16 = .ok (.iconst 2, 1) := by decide +kernel
theorem dX4_user_17 : decode cX4_user 17 = .ok (.iload_n 3, 1) := by decide +kernel
theorem dX4_user_18 : decode cX4_user 18 = .ok (.invokestatic 84, 3) := by decide +kernel
theorem dX4_user_21 : decode cX4_user 21 = .ok (.ifCond .eq 12, 3) := by decide +kernel
theorem dX4_user_24 : decode cX4_user 24 = .ok (.iconst 3, 1) := by decide +kernel
theorem dX4_user_25 : decode cX4_user 25 = .ok (.iload 4, 2) := by decide +kernel
theorem dX4_user_27 : decode cX4_user 27 = .ok (.invokestatic 84, 3) := by decide +kernel
theorem dX4_user_30 : decode cX4_user 30 = .ok (.ifCond .ne 6, 3) := by decide +kernel
theorem dX4_user_33 : decode cX4_user 33 = .ok (.ldc 83, 2) := by decide +kernel
theorem dX4_user_35 : decode cX4_user 35 = .ok (.ireturn, 1) := by decide +kernel
theorem dX4_user_36 : decode cX4_user 36 = .ok (.aload_n 0, 1) := by decide +kernel
theorem dX4_user_37 : decode cX4_user 37 = .ok (.getfield 7, 3) := by decide +kernel
theorem dX4_user_40 : decode cX4_user 40 = .ok (.iconst 1, 1) := by decide +kernel
theorem dX4_user_41 : decode cX4_user 41 = .ok (.iaload, 1) := by decide +kernel
theorem dX4_user_42 : decode cX4_user 42 = .ok (.iconst 5, 1) := by decide +kernel
theorem dX4_user_43 : decode cX4_user 43 = .ok (.if_icmp .ne 6, 3) := by decide +kernel
theorem dX4_user_46 : decode cX4_user 46 = .ok (.ldc 88, 2) := by decide +kernel
theorem dX4_user_48 : decode cX4_user 48 = .ok (.ireturn, 1) := by decide +kernel
theorem dX4_user_49 : decode cX4_user 49 = .ok (.aload_n 0, 1) := by decide +kernel
theorem dX4_user_50 : decode cX4_user 50 = .ok (.invokevirtual 89, 3) := by decide +kernel
theorem dX4_user_53 : decode cX4_user 53 = .ok (.iconst 3, 1) := by decide +kernel
theorem dX4_user_54 : decode cX4_user 54 = .ok (.iconst 5, 1) := by decide +kernel
theorem dX4_user_55 : decode cX4_user 55 = .ok (.aload_n 0, 1) := by decide +kernel
theorem dX4_user_56 : decode cX4_user 56 = .ok (.getfield 7, 3) := by decide +kernel
theorem dX4_user_59 : decode cX4_user 59 = .ok (.iconst 1, 1) := by decide +kernel
theorem dX4_user_60 : decode cX4_user 60 = .ok (.iaload, 1) := by decide +kernel
theorem dX4_user_61 : decode cX4_user 61 = .ok (.imul, 1) := by decide +kernel
theorem dX4_user_62 : decode cX4_user 62 = .ok (.iadd, 1) := by decide +kernel
theorem dX4_user_63 : decode cX4_user 63 = .ok (.istore 5, 2) := by decide +kernel
theorem dX4_user_65 : decode cX4_user 65 = .ok (.aload_n 0, 1) := by decide +kernel
theorem dX4_user_66 : decode cX4_user 66 = .ok (.getfield 7, 3) := by decide +kernel
theorem dX4_user_69 : decode cX4_user 69 = .ok (.iload 5, 2) := by decide +kernel
theorem dX4_user_71 : decode cX4_user 71 = .ok (.iload_n 1, 1) := by decide +kernel
theorem dX4_user_72 : decode cX4_user 72 = .ok (.iastore, 1) := by decide +kernel
theorem dX4_user_73 : decode cX4_user 73 = .ok (.aload_n 0, 1) := by decide +kernel
theorem dX4_user_74 : decode cX4_user 74 = .ok (.getfield 7, 3) := by decide +kernel
theorem dX4_user_77 : decode cX4_user 77 = .ok (.iload 5, 2) := by decide +kernel
theorem dX4_user_79 : decode cX4_user 79 = .ok (.iconst 1, 1) := by decide +kernel
theorem dX4_user_80 : decode cX4_user 80 = .ok (.iadd, 1) := by decide +kernel
theorem dX4_user_81 : decode cX4_user 81 = .ok (.iload_n 2, 1) := by decide +kernel
theorem dX4_user_82 : decode cX4_user 82 = .ok (.iastore, 1) := by decide +kernel
theorem dX4_user_83 : decode cX4_user 83 = .ok (.aload_n 0, 1) := by decide +kernel
theorem dX4_user_84 : decode cX4_user 84 = .ok (.getfield 7, 3) := by decide +kernel
theorem dX4_user_87 : decode cX4_user 87 = .ok (.iload 5, 2) := by decide +kernel
theorem dX4_user_89 : decode cX4_user 89 = .ok (.iconst 2, 1) := by decide +kernel
theorem dX4_user_90 : decode cX4_user 90 = .ok (.iadd, 1) := by decide +kernel
theorem dX4_user_91 : decode cX4_user 91 = .ok (.iload_n 3, 1) := by decide +kernel
theorem dX4_user_92 : decode cX4_user 92 = .ok (.iastore, 1) := by decide +kernel
theorem dX4_user_93 : decode cX4_user 93 = .ok (.aload_n 0, 1) := by decide +kernel
theorem dX4_user_94 : decode cX4_user 94 = .ok (.getfield 7, 3) := by decide +kernel
theorem dX4_user_97 : decode cX4_user 97 = .ok (.iload 5, 2) := by decide +kernel
theorem dX4_user_99 : decode cX4_user 99 = .ok (.iconst 3, 1) := by decide +kernel
theorem dX4_user_100 : decode cX4_user 100 = .ok (.iadd, 1) := by decide +kernel
theorem dX4_user_101 : decode cX4_user 101 = .ok (.iload 4, 2) := by decide +kernel
theorem dX4_user_103 : decode cX4_user 103 = .ok (.iastore, 1) := by decide +kernel
theorem dX4_user_104 : decode cX4_user 104 = .ok (.aload_n 0, 1) := by decide +kernel
theorem dX4_user_105 : decode cX4_user 105 = .ok (.getfield 7, 3) := by decide +kernel
theorem dX4_user_108 : decode cX4_user 108 = .ok (.iload 5, 2) := by decide +kernel
theorem dX4_user_110 : decode cX4_user 110 = .ok (.iconst 4, 1) := by decide +kernel
theorem dX4_user_111 : decode cX4_user 111 = .ok (.iadd, 1) := by decide +kernel
theorem dX4_user_112 : decode cX4_user 112 = .ok (.aload_n 0, 1) := by decide +kernel
theorem dX4_user_113 : decode cX4_user 113 = .ok (.invokevirtual 92, 3) := by decide +kernel
theorem dX4_user_116 : decode cX4_user 116 = .ok (.iastore, 1) := by decide +kernel
theorem dX4_user_117 : decode cX4_user 117 = .ok (.aload_n 0, 1) := by decide +kernel
theorem dX4_user_118 : decode cX4_user 118 = .ok (.getfield 7, 3) := by decide +kernel
theorem dX4_user_121 : decode cX4_user 121 = .ok (.iconst 1, 1) := by decide +kernel
theorem dX4_user_122 : decode cX4_user 122 = .ok (.dup2, 1) := by decide +kernel
theorem dX4_user_123 : decode cX4_user 123 = .ok (.iaload, 1) := by decide +kernel
theorem dX4_user_124 : decode cX4_user 124 = .ok (.iconst 1, 1) := by decide +kernel
theorem dX4_user_125 : decode cX4_user 125 = .ok (.iadd, 1) := by decide +kernel
theorem dX4_user_126 : decode cX4_user 126 = .ok (.iastore, 1) := by decide +kernel
theorem dX4_user_127 : decode cX4_user 127 = .ok (.aload_n 0, 1) := by decide +kernel
theorem dX4_user_128 : decode cX4_user 128 = .ok (.getfield 7, 3) := by decide +kernel
theorem dX4_user_131 : decode cX4_user 131 = .ok (.iconst 1, 1) := by decide +kernel
theorem dX4_user_132 : decode cX4_user 132 = .ok (.iaload, 1) := by decide +kernel
theorem dX4_user_133 : decode cX4_user 133 = .ok (.iconst 1, 1) := by decide +kernel
theorem dX4_user_134 : decode cX4_user 134 = .ok (.isub, 1) := by decide +kernel
theorem dX4_user_135 : decode cX4_user 135 = .ok (.ireturn, 1) := by decide +kernel
set_option maxRecDepth 20000 in
theorem ggX4_becomes_X4_note : GoodIn wsX4_becomes wsX4_note := goodIn_r _ [6, 7, 8, 1, 9, 10, 5, 11, 12, 13, 14, 15, 16, 17, 22, 23, 24, 25, 26, 27, 28, 29, 30, 31] (by decide +kernel) (by decide +kernel)
set_option maxRecDepth 20000 in
theorem gX4_becomes_X4_note : GoodIn wsX4_becomes (wsV RX4 89 RX4 yX4_note wsX4_note) := goodIn_app (goodIn_of _ (by decide +kernel)) ggX4_becomes_X4_note
set_option maxRecDepth 20000 in
theorem ggX4_becomes_X4_of : GoodIn wsX4_becomes wsX4_of := goodIn_r _ [21, 1, 22, 23, 24, 25, 26, 27, 28, 29, 30, 31] (by decide +kernel) (by decide +kernel)
set_option maxRecDepth 20000 in
theorem gX4_becomes_X4_of : GoodIn wsX4_becomes (wsV RX4 50 RX4 yX4_of wsX4_of) := goodIn_app (goodIn_of _ (by decide +kernel)) ggX4_becomes_X4_of
theorem dX4_becomes_0 : decode cX4_becomes 0 = .ok (.aload_n 0, 1) := by decide +kernel
theorem dX4_becomes_1 : decode cX4_becomes 1 = .ok (.invokevirtual 89, 3) := by decide +kernel
theorem dX4_becomes_4 : decode cX4_becomes 4 = .ok (.aload_n 0, 1) := by decide +kernel
theorem dX4_becomes_5 : decode cX4_becomes 5 = .ok (.iload_n 1, 1) := by decide +kernel
theorem dX4_becomes_6 : decode cX4_becomes 6 = .ok (.iload_n 2, 1) := by decide +kernel
theorem dX4_becomes_7 : decode cX4_becomes 7 = .ok (.invokevirtual 50, 3) := by decide +kernel
theorem dX4_becomes_10 : decode cX4_becomes 10 = .ok (.istore 4, 2) := by decide +kernel
theorem dX4_becomes_12 : decode cX4_becomes 12 = .ok (.aload_n 0, 1) := by decide +kernel
theorem dX4_becomes_13 : decode cX4_becomes 13 = .ok (.getfield 7, 3) := by decide +kernel
theorem dX4_becomes_16 : decode cX4_becomes 16 = .ok (.iconst 3, 1) := by decide +kernel
theorem dX4_becomes_17 : decode cX4_becomes 17 = .ok (.iconst 5, 1) := by decide +kernel
theorem dX4_becomes_18 : decode cX4_becomes 18 = .ok (.iload_n 1, 1) := by decide +kernel
theorem dX4_becomes_19 : decode cX4_becomes 19 = .ok (.imul, 1) := by decide +kernel
theorem dX4_becomes_20 : decode cX4_becomes 20 = .ok (.iadd, 1) := by decide +kernel
theorem dX4_becomes_21 : decode cX4_becomes 21 = .ok (.iload_n 2, 1) := by decide +kernel
theorem dX4_becomes_22 : decode cX4_becomes 22 = .ok (.iadd, 1) := by decide +kernel
theorem dX4_becomes_23 : decode cX4_becomes 23 = .ok (.iload_n 3, 1) := by decide +kernel
theorem dX4_becomes_24 : decode cX4_becomes 24 = .ok (.iastore, 1) := by decide +kernel
theorem dX4_becomes_25 : decode cX4_becomes 25 = .ok (.iload 4, 2) := by decide +kernel
theorem dX4_becomes_27 : decode cX4_becomes 27 = .ok (.ireturn, 1) := by decide +kernel
set_option maxRecDepth 20000 in
theorem ggX4_open_X4_isUser : GoodIn wsX4_open wsX4_isUser := goodIn_r _ [7, 8, 9, 10, 6, 11, 39, 40, 41, 42, 43, 44, 45, 46, 47, 48] (by decide +kernel) (by decide +kernel)
set_option maxRecDepth 20000 in
theorem gX4_open_X4_isUser : GoodIn wsX4_open (wsV RX4 47 RX4 yX4_isUser wsX4_isUser) := goodIn_app (goodIn_of _ (by decide +kernel)) ggX4_open_X4_isUser
set_option maxRecDepth 20000 in
theorem ggX4_open_X4_all : GoodIn wsX4_open wsX4_all := goodIn_r _ [15, 8, 39, 40, 41, 42, 43, 44, 45, 46, 47, 48] (by decide +kernel) (by decide +kernel)
set_option maxRecDepth 20000 in
theorem gX4_open_X4_all : GoodIn wsX4_open (wsV RX4 92 RX4 yX4_all wsX4_all) := goodIn_app (goodIn_of _ (by decide +kernel)) ggX4_open_X4_all
set_option maxRecDepth 20000 in
theorem ggX4_open_X4_in : GoodIn wsX4_open wsX4_in := goodIn_r _ [11] (by decide +kernel) (by decide +kernel)
set_option maxRecDepth 20000 in
theorem gX4_open_X4_in : GoodIn wsX4_open (va_wsS RX4 43 yX4_in wsX4_in) := goodIn_app (goodIn_of _ (by decide +kernel)) ggX4_open_X4_in
set_option maxRecDepth 20000 in
theorem ggX4_open_X4_becomes : GoodIn wsX4_open wsX4_becomes := goodIn_r _ [19, 8, 20, 21, 22, 6, 23, 24, 25, 26, 27, 28, 29, 30, 31, 32, 33, 34, 35, 36, 37, 38, 39, 40, 41, 42, 43, 44, 45, 46, 47, 48] (by decide +kernel) (by decide +kernel)
set_option maxRecDepth 20000 in
theorem gX4_open_X4_becomes : GoodIn wsX4_open (wsV RX4 97 RX4 yX4_becomes wsX4_becomes) := goodIn_app (goodIn_of _ (by decide +kernel)) ggX4_open_X4_becomes
theorem dX4_open_0 : decode cX4_open 0 = .ok (.aload_n 0, 1) := by decide +kernel
theorem dX4_open_1 : decode cX4_open 1 = .ok (.iload_n 1, 1) := by decide +kernel
theorem dX4_open_2 : decode cX4_open 2 = .ok (.invokevirtual 47, 3) := by decide +kernel
theorem dX4_open_5 : decode cX4_open 5 = .ok (.ifCond .ne 6, 3) := by decide +kernel
theorem dX4_open_8 : decode cX4_open 8 = .ok (.ldc 96, 2) := by decide +kernel
theorem dX4_open_10 : decode cX4_open 10 = .ok (.ireturn, 1) := by decide +kernel
theorem dX4_open_11 : decode cX4_open 11 = .ok (.iload_n 2, 1) := by decide +kernel
theorem dX4_open_12 : decode cX4_open 12 = .ok (.iconst 0, 1) := by decide +kernel
theorem dX4_open_13 : decode cX4_open 13 = .ok (.aload_n 0, 1) := by decide +kernel
theorem dX4_open_14 : decode cX4_open 14 = .ok (.invokevirtual 92, 3) := by decide +kernel
theorem dX4_open_17 : decode cX4_open 17 = .ok (.invokestatic 43, 3) := by decide +kernel
theorem dX4_open_20 : decode cX4_open 20 = .ok (.ifCond .eq 13, 3) := by decide +kernel
theorem dX4_open_23 : decode cX4_open 23 = .ok (.aload_n 0, 1) := by decide +kernel
theorem dX4_open_24 : decode cX4_open 24 = .ok (.iload_n 1, 1) := by decide +kernel
theorem dX4_open_25 : decode cX4_open 25 = .ok (.iconst 4, 1) := by decide +kernel
theorem dX4_open_26 : decode cX4_open 26 = .ok (.iload_n 2, 1) := by decide +kernel
theorem dX4_open_27 : decode cX4_open 27 = .ok (.invokevirtual 97, 3) := by decide +kernel
theorem dX4_open_30 : decode cX4_open 30 = .ok (.goto 5, 3) := by decide +kernel
theorem dX4_open_33 : decode cX4_open 33 = .ok (.ldc 83, 2) := by decide +kernel
theorem dX4_open_35 : decode cX4_open 35 = .ok (.ireturn, 1) := by decide +kernel
set_option maxRecDepth 20000 in
theorem ggX4_set_X4_isUser : GoodIn wsX4_set wsX4_isUser := goodIn_r _ [7, 8, 9, 10, 6, 11, 38, 39, 40, 41, 42, 43, 44, 45, 46, 47] (by decide +kernel) (by decide +kernel)
set_option maxRecDepth 20000 in
theorem gX4_set_X4_isUser : GoodIn wsX4_set (wsV RX4 47 RX4 yX4_isUser wsX4_isUser) := goodIn_app (goodIn_of _ (by decide +kernel)) ggX4_set_X4_isUser
set_option maxRecDepth 20000 in
theorem ggX4_set_X4_in : GoodIn wsX4_set wsX4_in := goodIn_r _ [11] (by decide +kernel) (by decide +kernel)
set_option maxRecDepth 20000 in
theorem gX4_set_X4_in : GoodIn wsX4_set (va_wsS RX4 43 yX4_in wsX4_in) := goodIn_app (goodIn_of _ (by decide +kernel)) ggX4_set_X4_in
set_option maxRecDepth 20000 in
theorem ggX4_set_X4_isBound : GoodIn wsX4_set wsX4_isBound := goodIn_r _ [14, 9, 10, 6, 11] (by decide +kernel) (by decide +kernel)
set_option maxRecDepth 20000 in
theorem gX4_set_X4_isBound : GoodIn wsX4_set (va_wsS RX4 84 yX4_isBound wsX4_isBound) := goodIn_app (goodIn_of _ (by decide +kernel)) ggX4_set_X4_isBound
set_option maxRecDepth 20000 in
theorem ggX4_set_X4_becomes : GoodIn wsX4_set wsX4_becomes := goodIn_r _ [18, 8, 19, 20, 21, 6, 22, 23, 24, 25, 26, 27, 28, 29, 30, 31, 32, 33, 34, 35, 36, 37, 38, 39, 40, 41, 42, 43, 44, 45, 46, 47] (by decide +kernel) (by decide +kernel)
set_option maxRecDepth 20000 in
theorem gX4_set_X4_becomes : GoodIn wsX4_set (wsV RX4 97 RX4 yX4_becomes wsX4_becomes) := goodIn_app (goodIn_of _ (by decide +kernel)) ggX4_set_X4_becomes
theorem dX4_set_0 : decode cX4_set 0 = .ok (.aload_n 0, 1) := by decide +kernel
theorem dX4_set_1 : decode cX4_set 1 = .ok (.iload_n 1, 1) := by decide +kernel
theorem dX4_set_2 : decode cX4_set 2 = .ok (.invokevirtual 47, 3) := by decide +kernel
theorem dX4_set_5 : decode cX4_set 5 = .ok (.ifCond .ne 6, 3) := by decide +kernel
theorem dX4_set_8 : decode cX4_set 8 = .ok (.ldc 96, 2) := by decide +kernel
theorem dX4_set_10 : decode cX4_set 10 = .ok (.ireturn, 1) := by decide +kernel
theorem dX4_set_11 : decode cX4_set 11 = .ok (.iload_n 2, 1) := by decide +kernel
theorem dX4_set_12 : decode cX4_set 12 = .ok (.iconst 0, 1) := by decide +kernel
theorem dX4_set_13 : decode cX4_set 13 = .ok (.iconst 3, 1) := by decide +kernel
theorem dX4_set_14 : decode cX4_set 14 = .ok (.invokestatic 43, 3) := by decide +kernel
theorem dX4_set_17 : decode cX4_set 17 = .ok (.ifCond .eq 21, 3) := by decide +kernel
theorem dX4_set_20 : decode cX4_set 20 = .ok (.iload_n 2, 1) := by decide +kernel
theorem dX4_set_21 : decode cX4_set 21 = .ok (.iload_n 3, 1) := by decide +kernel
theorem dX4_set_22 : decode cX4_set 22 = .ok (.invokestatic 84, 3) := by decide +kernel
theorem dX4_set_25 : decode cX4_set 25 = .ok (.ifCond .eq 13, 3) := by decide +kernel
theorem dX4_set_28 : decode cX4_set 28 = .ok (.aload_n 0, 1) := by decide +kernel
theorem dX4_set_29 : decode cX4_set 29 = .ok (.iload_n 1, 1) := by decide +kernel
theorem dX4_set_30 : decode cX4_set 30 = .ok (.iload_n 2, 1) := by decide +kernel
theorem dX4_set_31 : decode cX4_set 31 = .ok (.iload_n 3, 1) := by decide +kernel
theorem dX4_set_32 : decode cX4_set 32 = .ok (.invokevirtual 97, 3) := by decide +kernel
theorem dX4_set_35 : decode cX4_set 35 = .ok (.goto 5, 3) := by decide +kernel
theorem dX4_set_38 : decode cX4_set 38 = .ok (.ldc 83, 2) := by decide +kernel
theorem dX4_set_40 : decode cX4_set 40 = .ok (.ireturn, 1) := by decide +kernel
set_option maxRecDepth 20000 in
theorem ggX4_shut_X4_isUser : GoodIn wsX4_shut wsX4_isUser := goodIn_r _ [9, 1, 10, 11, 8, 12, 28, 29, 30, 31, 32, 33, 34, 35, 36, 37] (by decide +kernel) (by decide +kernel)
set_option maxRecDepth 20000 in
theorem gX4_shut_X4_isUser : GoodIn wsX4_shut (wsV RX4 47 RX4 yX4_isUser wsX4_isUser) := goodIn_app (goodIn_of _ (by decide +kernel)) ggX4_shut_X4_isUser
set_option maxRecDepth 20000 in
theorem ggX4_shut_X4_in : GoodIn wsX4_shut wsX4_in := goodIn_r _ [12] (by decide +kernel) (by decide +kernel)
set_option maxRecDepth 20000 in
theorem gX4_shut_X4_in : GoodIn wsX4_shut (va_wsS RX4 43 yX4_in wsX4_in) := goodIn_app (goodIn_of _ (by decide +kernel)) ggX4_shut_X4_in
set_option maxRecDepth 20000 in
theorem ggX4_shut_X4_note : GoodIn wsX4_shut wsX4_note := goodIn_r _ [16, 17, 18, 1, 19, 20, 8, 21, 22, 23, 24, 25, 26, 27, 28, 29, 30, 31, 32, 33, 34, 35, 36, 37] (by decide +kernel) (by decide +kernel)
set_option maxRecDepth 20000 in
theorem gX4_shut_X4_note : GoodIn wsX4_shut (wsV RX4 89 RX4 yX4_note wsX4_note) := goodIn_app (goodIn_of _ (by decide +kernel)) ggX4_shut_X4_note
theorem dX4_shut_0 : decode cX4_shut 0 = .ok (.iload_n 1, 1) := by decide +kernel
theorem dX4_shut_1 : decode cX4_shut 1 = .ok (.iconst (-1), 1) := by decide +kernel
theorem dX4_shut_2 : decode cX4_shut 2 = .ok (.if_icmp .eq 11, 3) := by decide +kernel
theorem dX4_shut_5 : decode cX4_shut 5 = .ok (.aload_n 0, 1) := by decide +kernel
theorem dX4_shut_6 : decode cX4_shut 6 = .ok (.iload_n 1, 1) := by decide +kernel
theorem dX4_shut_7 : decode cX4_shut 7 = .ok (.invokevirtual 47, 3) := by decide +kernel
theorem dX4_shut_10 : decode cX4_shut 10 = .ok (.ifCond .eq 19, 3) := by decide +kernel
theorem dX4_shut_13 : decode cX4_shut 13 = .ok (.iload_n 2, 1) := by decide +kernel
theorem dX4_shut_14 : decode cX4_shut 14 = .ok (.iconst 0, 1) := by decide +kernel
theorem dX4_shut_15 : decode cX4_shut 15 = .ok (.aload_n 0, 1) := by decide +kernel
theorem dX4_shut_16 : decode cX4_shut 16 = .ok (.getfield 7, 3) := by decide +kernel
theorem dX4_shut_19 : decode cX4_shut 19 = .ok (.iconst 0, 1) := by decide +kernel
theorem dX4_shut_20 : decode cX4_shut 20 = .ok (.iaload, 1) := by decide +kernel
theorem dX4_shut_21 : decode cX4_shut 21 = .ok (.iconst 1, 1) := by decide +kernel
theorem dX4_shut_22 : decode cX4_shut 22 = .ok (.isub, 1) := by decide +kernel
theorem dX4_shut_23 : decode cX4_shut 23 = .ok (.invokestatic 43, 3) := by decide +kernel
theorem dX4_shut_26 : decode cX4_shut 26 = .ok (.ifCond .ne 6, 3) := by decide +kernel
theorem dX4_shut_29 : decode cX4_shut 29 = .ok (.ldc 96, 2) := by decide +kernel
theorem dX4_shut_31 : decode cX4_shut 31 = .ok (.ireturn, 1) := by decide +kernel
theorem dX4_shut_32 : decode cX4_shut 32 = .ok (.iload_n 3, 1) := by decide +kernel
theorem dX4_shut_33 : decode cX4_shut 33 = .ok (.iconst 0, 1) := by decide +kernel
theorem dX4_shut_34 : decode cX4_shut 34 = .ok (.sipush 1500, 3) := by decide +kernel
theorem dX4_shut_37 : decode cX4_shut 37 = .ok (.invokestatic 43, 3) := by decide +kernel
theorem dX4_shut_40 : decode cX4_shut 40 = .ok (.ifCond .eq 15, 3) := by decide +kernel
theorem dX4_shut_43 : decode cX4_shut 43 = .ok (.iload 4, 2) := by decide +kernel
theorem dX4_shut_45 : decode cX4_shut 45 = .ok (.iconst 1, 1) := by decide +kernel
theorem dX4_shut_46 : decode cX4_shut 46 = .ok (.sipush 500, 3) := by decide +kernel
theorem dX4_shut_49 : decode cX4_shut 49 = .ok (.invokestatic 43, 3) := by decide +kernel
theorem dX4_shut_52 : decode cX4_shut 52 = .ok (.ifCond .ne 6, 3) := by decide +kernel
theorem dX4_shut_55 : decode cX4_shut 55 = .ok (.ldc 83, 2) := by decide +kernel
theorem dX4_shut_57 : decode cX4_shut 57 = .ok (.ireturn, 1) := by decide +kernel
theorem dX4_shut_58 : decode cX4_shut 58 = .ok (.aload_n 0, 1) := by decide +kernel
theorem dX4_shut_59 : decode cX4_shut 59 = .ok (.getfield 7, 3) := by decide +kernel
theorem dX4_shut_62 : decode cX4_shut 62 = .ok (.iconst 2, 1) := by decide +kernel
theorem dX4_shut_63 : decode cX4_shut 63 = .ok (.iaload, 1) := by decide +kernel
theorem dX4_shut_64 : decode cX4_shut 64 = .ok (.bipush 8, 2) := by decide +kernel
theorem dX4_shut_66 : decode cX4_shut 66 = .ok (.if_icmp .ne 6, 3) := by decide +kernel
theorem dX4_shut_69 : decode cX4_shut 69 = .ok (.ldc 88, 2) := by decide +kernel
theorem dX4_shut_71 : decode cX4_shut 71 = .ok (.ireturn, 1) := by decide +kernel
theorem dX4_shut_72 : decode cX4_shut 72 = .ok (.aload_n 0, 1) := by decide +kernel
theorem dX4_shut_73 : decode cX4_shut 73 = .ok (.invokevirtual 89, 3) := by decide +kernel
theorem dX4_shut_76 : decode cX4_shut 76 = .ok (.bipush 28, 2) := by decide +kernel
theorem dX4_shut_78 : decode cX4_shut 78 = .ok (.iconst 4, 1) := by decide +kernel
theorem dX4_shut_79 : decode cX4_shut 79 = .ok (.aload_n 0, 1) := by decide +kernel
theorem dX4_shut_80 : decode cX4_shut 80 = .ok (.getfield 7, 3) := by decide +kernel
theorem dX4_shut_83 : decode cX4_shut 83 = .ok (.iconst 2, 1) := by decide +kernel
theorem dX4_shut_84 : decode cX4_shut 84 = .ok (.iaload, 1) := by decide +kernel
theorem dX4_shut_85 : decode cX4_shut 85 = .ok (.imul, 1) := by decide +kernel
theorem dX4_shut_86 : decode cX4_shut 86 = .ok (.iadd, 1) := by decide +kernel
theorem dX4_shut_87 : decode cX4_shut 87 = .ok (.istore 5, 2) := by decide +kernel
theorem dX4_shut_89 : decode cX4_shut 89 = .ok (.aload_n 0, 1) := by decide +kernel
theorem dX4_shut_90 : decode cX4_shut 90 = .ok (.getfield 7, 3) := by decide +kernel
theorem dX4_shut_93 : decode cX4_shut 93 = .ok (.iload 5, 2) := by decide +kernel
theorem dX4_shut_95 : decode cX4_shut 95 = .ok (.iload_n 1, 1) := by decide +kernel
theorem dX4_shut_96 : decode cX4_shut 96 = .ok (.iastore, 1) := by decide +kernel
theorem dX4_shut_97 : decode cX4_shut 97 = .ok (.aload_n 0, 1) := by decide +kernel
theorem dX4_shut_98 : decode cX4_shut 98 = .ok (.getfield 7, 3) := by decide +kernel
theorem dX4_shut_101 : decode cX4_shut 101 = .ok (.iload 5, 2) := by decide +kernel
theorem dX4_shut_103 : decode cX4_shut 103 = .ok (.iconst 1, 1) := by decide +kernel
theorem dX4_shut_104 : decode cX4_shut 104 = .ok (.iadd, 1) := by decide +kernel
theorem dX4_shut_105 : decode cX4_shut 105 = .ok (.iload_n 2, 1) := by decide +kernel
theorem dX4_shut_106 : decode cX4_shut 106 = .ok (.iastore, 1) := by decide +kernel
theorem dX4_shut_107 : decode cX4_shut 107 = .ok (.aload_n 0, 1) := by decide +kernel
theorem dX4_shut_108 : decode cX4_shut 108 = .ok (.getfield 7, 3) := by decide +kernel
theorem dX4_shut_111 : decode cX4_shut 111 = .ok (.iload 5, 2) := by decide +kernel
theorem dX4_shut_113 : decode cX4_shut 113 = .ok (.iconst 2, 1) := by decide +kernel
theorem dX4_shut_114 : decode cX4_shut 114 = .ok (.iadd, 1) := by decide +kernel
theorem dX4_shut_115 : decode cX4_shut 115 = .ok (.iload_n 3, 1) := by decide +kernel
theorem dX4_shut_116 : decode cX4_shut 116 = .ok (.iastore, 1) := by decide +kernel
theorem dX4_shut_117 : decode cX4_shut 117 = .ok (.aload_n 0, 1) := by decide +kernel
theorem dX4_shut_118 : decode cX4_shut 118 = .ok (.getfield 7, 3) := by decide +kernel
theorem dX4_shut_121 : decode cX4_shut 121 = .ok (.iload 5, 2) := by decide +kernel
theorem dX4_shut_123 : decode cX4_shut 123 = .ok (.iconst 3, 1) := by decide +kernel
theorem dX4_shut_124 : decode cX4_shut 124 = .ok (.iadd, 1) := by decide +kernel
theorem dX4_shut_125 : decode cX4_shut 125 = .ok (.iload 4, 2) := by decide +kernel
theorem dX4_shut_127 : decode cX4_shut 127 = .ok (.iastore, 1) := by decide +kernel
theorem dX4_shut_128 : decode cX4_shut 128 = .ok (.aload_n 0, 1) := by decide +kernel
theorem dX4_shut_129 : decode cX4_shut 129 = .ok (.getfield 7, 3) := by decide +kernel
theorem dX4_shut_132 : decode cX4_shut 132 = .ok (.iconst 2, 1) := by decide +kernel
theorem dX4_shut_133 : decode cX4_shut 133 = .ok (.dup2, 1) := by decide +kernel
theorem dX4_shut_134 : decode cX4_shut 134 = .ok (.iaload, 1) := by decide +kernel
theorem dX4_shut_135 : decode cX4_shut 135 = .ok (.iconst 1, 1) := by decide +kernel
theorem dX4_shut_136 : decode cX4_shut 136 = .ok (.iadd, 1) := by decide +kernel
theorem dX4_shut_137 : decode cX4_shut 137 = .ok (.iastore, 1) := by decide +kernel
theorem dX4_shut_138 : decode cX4_shut 138 = .ok (.aload_n 0, 1) := by decide +kernel
theorem dX4_shut_139 : decode cX4_shut 139 = .ok (.getfield 7, 3) := by decide +kernel
theorem dX4_shut_142 : decode cX4_shut 142 = .ok (.iconst 2, 1) := by decide +kernel
theorem dX4_shut_143 : decode cX4_shut 143 = .ok (.iaload, 1) := by decide +kernel
theorem dX4_shut_144 : decode cX4_shut 144 = .ok (.ireturn, 1) := by decide +kernel
theorem dX4_drawn_0 : decode cX4_drawn 0 = .ok (.aload_n 0, 1) := by decide +kernel
theorem dX4_drawn_1 : decode cX4_drawn 1 = .ok (.aload_n 0, 1) := by decide +kernel
theorem dX4_drawn_2 : decode cX4_drawn 2 = .ok (.getfield 101, 3) := by decide +kernel
theorem dX4_drawn_5 : decode cX4_drawn 5 = .ok (.ldc2_w 105, 3) := by decide +kernel
theorem dX4_drawn_8 : decode cX4_drawn 8 = .ok (.lmul, 1) := by decide +kernel
theorem dX4_drawn_9 : decode cX4_drawn 9 = .ok (.ldc2_w 107, 3) := by decide +kernel
theorem dX4_drawn_12 : decode cX4_drawn 12 = .ok (.lrem, 1) := by decide +kernel
theorem dX4_drawn_13 : decode cX4_drawn 13 = .ok (.putfield 101, 3) := by decide +kernel
theorem dX4_drawn_16 : decode cX4_drawn 16 = .ok (.aload_n 0, 1) := by decide +kernel
theorem dX4_drawn_17 : decode cX4_drawn 17 = .ok (.getfield 101, 3) := by decide +kernel
theorem dX4_drawn_20 : decode cX4_drawn 20 = .ok (.iload_n 1, 1) := by decide +kernel
theorem dX4_drawn_21 : decode cX4_drawn 21 = .ok (.i2l, 1) := by decide +kernel
theorem dX4_drawn_22 : decode cX4_drawn 22 = .ok (.lrem, 1) := by decide +kernel
theorem dX4_drawn_23 : decode cX4_drawn 23 = .ok (.l2i, 1) := by decide +kernel
theorem dX4_drawn_24 : decode cX4_drawn 24 = .ok (.ireturn, 1) := by decide +kernel
set_option maxRecDepth 20000 in
theorem ggX4_drift_X4_in : GoodIn wsX4_drift wsX4_in := goodIn_r _ [9] (by decide +kernel) (by decide +kernel)
set_option maxRecDepth 20000 in
theorem gX4_drift_X4_in : GoodIn wsX4_drift (va_wsS RX4 43 yX4_in wsX4_in) := goodIn_app (goodIn_of _ (by decide +kernel)) ggX4_drift_X4_in
set_option maxRecDepth 20000 in
theorem ggX4_drift_X4_note : GoodIn wsX4_drift wsX4_note := goodIn_r _ [13, 14, 15, 3, 16, 17, 8, 18, 19, 20, 21, 22, 23, 24, 43, 44, 45, 46, 47, 48, 49, 50, 51, 52] (by decide +kernel) (by decide +kernel)
set_option maxRecDepth 20000 in
theorem gX4_drift_X4_note : GoodIn wsX4_drift (wsV RX4 89 RX4 yX4_note wsX4_note) := goodIn_app (goodIn_of _ (by decide +kernel)) ggX4_drift_X4_note
set_option maxRecDepth 20000 in
theorem ggX4_drift_X4_drawn : GoodIn wsX4_drift wsX4_drawn := goodIn_r _ [28, 5, 29, 30, 43, 44, 45, 46, 47, 48, 49, 50, 51, 52] (by decide +kernel) (by decide +kernel)
set_option maxRecDepth 20000 in
theorem gX4_drift_X4_drawn : GoodIn wsX4_drift (wsV RX4 111 RX4 yX4_drawn wsX4_drawn) := goodIn_app (goodIn_of _ (by decide +kernel)) ggX4_drift_X4_drawn
set_option maxRecDepth 20000 in
theorem ggX4_drift_X4_common : GoodIn wsX4_drift wsX4_common := goodIn_r _ [34, 3, 35, 36, 37, 8, 38, 39, 40, 41, 42, 43, 44, 45, 46, 47, 48, 49, 50, 51, 52] (by decide +kernel) (by decide +kernel)
set_option maxRecDepth 20000 in
theorem gX4_drift_X4_common : GoodIn wsX4_drift (wsV RX4 114 RX4 yX4_common wsX4_common) := goodIn_app (goodIn_of _ (by decide +kernel)) ggX4_drift_X4_common
theorem dX4_drift_0 : decode cX4_drift 0 = .ok (.iload_n 1, 1) := by decide +kernel
theorem dX4_drift_1 : decode cX4_drift 1 = .ok (.iconst 1, 1) := by decide +kernel
theorem dX4_drift_2 : decode cX4_drift 2 = .ok (.ldc 109, 2) := by decide +kernel
theorem dX4_drift_4 : decode cX4_drift 4 = .ok (.invokestatic 43, 3) := by decide +kernel
theorem dX4_drift_7 : decode cX4_drift 7 = .ok (.ifCond .ne 6, 3) := by decide +kernel
theorem dX4_drift_10 : decode cX4_drift 10 = .ok (.ldc 83, 2) := by decide +kernel
theorem dX4_drift_12 : decode cX4_drift 12 = .ok (.ireturn, 1) := by decide +kernel
theorem dX4_drift_13 : decode cX4_drift 13 = .ok (.aload_n 0, 1) := by decide +kernel
theorem dX4_drift_14 : decode cX4_drift 14 = .ok (.getfield 7, 3) := by decide +kernel
theorem dX4_drift_17 : decode cX4_drift 17 = .ok (.iconst 1, 1) := by decide +kernel
theorem dX4_drift_18 : decode cX4_drift 18 = .ok (.iaload, 1) := by decide +kernel
theorem dX4_drift_19 : decode cX4_drift 19 = .ok (.ifCond .ne 6, 3) := by decide +kernel
theorem dX4_drift_22 : decode cX4_drift 22 = .ok (.ldc 110, 2) := by decide +kernel
theorem dX4_drift_24 : decode cX4_drift 24 = .ok (.ireturn, 1) := by decide +kernel
theorem dX4_drift_25 : decode cX4_drift 25 = .ok (.aload_n 0, 1) := by decide +kernel
theorem dX4_drift_26 : decode cX4_drift 26 = .ok (.invokevirtual 89, 3) := by decide +kernel
theorem dX4_drift_29 : decode cX4_drift 29 = .ok (.aload_n 0, 1) := by decide +kernel
theorem dX4_drift_30 : decode cX4_drift 30 = .ok (.iload_n 1, 1) := by decide +kernel
theorem dX4_drift_31 : decode cX4_drift 31 = .ok (.i2l, 1) := by decide +kernel
theorem dX4_drift_32 : decode cX4_drift 32 = .ok (.putfield 101, 3) := by decide +kernel
theorem dX4_drift_35 : decode cX4_drift 35 = .ok (.iconst 0, 1) := by decide +kernel
theorem dX4_drift_36 : decode cX4_drift 36 = .ok (.istore_n 2, 1) := by decide +kernel
theorem dX4_drift_37 : decode cX4_drift 37 = .ok (.iload_n 2, 1) := by decide +kernel
theorem dX4_drift_38 : decode cX4_drift 38 = .ok (.aload_n 0, 1) := by decide +kernel
theorem dX4_drift_39 : decode cX4_drift 39 = .ok (.getfield 7, 3) := by decide +kernel
theorem dX4_drift_42 : decode cX4_drift 42 = .ok (.iconst 1, 1) := by decide +kernel
theorem dX4_drift_43 : decode cX4_drift 43 = .ok (.iaload, 1) := by decide +kernel
theorem dX4_drift_44 : decode cX4_drift 44 = .ok (.if_icmp .ge 77, 3) := by decide +kernel
theorem dX4_drift_47 : decode cX4_drift 47 = .ok (.iconst 3, 1) := by decide +kernel
theorem dX4_drift_48 : decode cX4_drift 48 = .ok (.iconst 5, 1) := by decide +kernel
theorem dX4_drift_49 : decode cX4_drift 49 = .ok (.iload_n 2, 1) := by decide +kernel
theorem dX4_drift_50 : decode cX4_drift 50 = .ok (.imul, 1) := by decide +kernel
theorem dX4_drift_51 : decode cX4_drift 51 = .ok (.iadd, 1) := by decide +kernel
theorem dX4_drift_52 : decode cX4_drift 52 = .ok (.istore_n 3, 1) := by decide +kernel
theorem dX4_drift_53 : decode cX4_drift 53 = .ok (.aload_n 0, 1) := by decide +kernel
theorem dX4_drift_54 : decode cX4_drift 54 = .ok (.getfield 7, 3) := by decide +kernel
theorem dX4_drift_57 : decode cX4_drift 57 = .ok (.iload_n 3, 1) := by decide +kernel
theorem dX4_drift_58 : decode cX4_drift 58 = .ok (.iconst 4, 1) := by decide +kernel
theorem dX4_drift_59 : decode cX4_drift 59 = .ok (.iadd, 1) := by decide +kernel
theorem dX4_drift_60 : decode cX4_drift 60 = .ok (.aload_n 0, 1) := by decide +kernel
theorem dX4_drift_61 : decode cX4_drift 61 = .ok (.iconst 1, 1) := by decide +kernel
theorem dX4_drift_62 : decode cX4_drift 62 = .ok (.aload_n 0, 1) := by decide +kernel
theorem dX4_drift_63 : decode cX4_drift 63 = .ok (.getfield 7, 3) := by decide +kernel
theorem dX4_drift_66 : decode cX4_drift 66 = .ok (.iconst 0, 1) := by decide +kernel
theorem dX4_drift_67 : decode cX4_drift 67 = .ok (.iaload, 1) := by decide +kernel
theorem dX4_drift_68 : decode cX4_drift 68 = .ok (.ishl, 1) := by decide +kernel
theorem dX4_drift_69 : decode cX4_drift 69 = .ok (.invokevirtual 111, 3) := by decide +kernel
theorem dX4_drift_72 : decode cX4_drift 72 = .ok (.iastore, 1) := by decide +kernel
theorem dX4_drift_73 : decode cX4_drift 73 = .ok (.aload_n 0, 1) := by decide +kernel
theorem dX4_drift_74 : decode cX4_drift 74 = .ok (.getfield 7, 3) := by decide +kernel
theorem dX4_drift_77 : decode cX4_drift 77 = .ok (.iload_n 3, 1) := by decide +kernel
theorem dX4_drift_78 : decode cX4_drift 78 = .ok (.iconst 1, 1) := by decide +kernel
theorem dX4_drift_79 : decode cX4_drift 79 = .ok (.iadd, 1) := by decide +kernel
theorem dX4_drift_80 : decode cX4_drift 80 = .ok (.aload_n 0, 1) := by decide +kernel
theorem dX4_drift_81 : decode cX4_drift 81 = .ok (.bipush 100, 2) := by decide +kernel
theorem dX4_drift_83 : decode cX4_drift 83 = .ok (.invokevirtual 111, 3) := by decide +kernel
theorem dX4_drift_86 : decode cX4_drift 86 = .ok (.iastore, 1) := by decide +kernel
theorem dX4_drift_87 : decode cX4_drift 87 = .ok (.aload_n 0, 1) := by decide +kernel
theorem dX4_drift_88 : decode cX4_drift 88 = .ok (.getfield 7, 3) := by decide +kernel
theorem dX4_drift_91 : decode cX4_drift 91 = .ok (.iload_n 3, 1) := by decide +kernel
theorem dX4_drift_92 : decode cX4_drift 92 = .ok (.iconst 2, 1) := by decide +kernel
theorem dX4_drift_93 : decode cX4_drift 93 = .ok (.iadd, 1) := by decide +kernel
theorem dX4_drift_94 : decode cX4_drift 94 = .ok (.aload_n 0, 1) := by decide +kernel
theorem dX4_drift_95 : decode cX4_drift 95 = .ok (.bipush 100, 2) := by decide +kernel
theorem dX4_drift_97 : decode cX4_drift 97 = .ok (.invokevirtual 111, 3) := by decide +kernel
theorem dX4_drift_100 : decode cX4_drift 100 = .ok (.iastore, 1) := by decide +kernel
theorem dX4_drift_101 : decode cX4_drift 101 = .ok (.aload_n 0, 1) := by decide +kernel
theorem dX4_drift_102 : decode cX4_drift 102 = .ok (.getfield 7, 3) := by decide +kernel
theorem dX4_drift_105 : decode cX4_drift 105 = .ok (.iload_n 3, 1) := by decide +kernel
theorem dX4_drift_106 : decode cX4_drift 106 = .ok (.iconst 3, 1) := by decide +kernel
theorem dX4_drift_107 : decode cX4_drift 107 = .ok (.iadd, 1) := by decide +kernel
theorem dX4_drift_108 : decode cX4_drift 108 = .ok (.aload_n 0, 1) := by decide +kernel
theorem dX4_drift_109 : decode cX4_drift 109 = .ok (.bipush 50, 2) := by decide +kernel
theorem dX4_drift_111 : decode cX4_drift 111 = .ok (.invokevirtual 111, 3) := by decide +kernel
theorem dX4_drift_114 : decode cX4_drift 114 = .ok (.iastore, 1) := by decide +kernel
theorem dX4_drift_115 : decode cX4_drift 115 = .ok (.iinc 2 1, 3) := by decide +kernel
theorem dX4_drift_118 : decode cX4_drift 118 = .ok (.goto (-81), 3) := by decide +kernel
theorem dX4_drift_121 : decode cX4_drift 121 = .ok (.aload_n 0, 1) := by decide +kernel
theorem dX4_drift_122 : decode cX4_drift 122 = .ok (.invokevirtual 114, 3) := by decide +kernel
theorem dX4_drift_125 : decode cX4_drift 125 = .ok (.ireturn, 1) := by decide +kernel
set_option maxRecDepth 20000 in
theorem ggX4_undo_X4_bring : GoodIn wsX4_undo wsX4_bring := goodIn_r _ [8] (by decide +kernel) (by decide +kernel)
set_option maxRecDepth 20000 in
theorem gX4_undo_X4_bring : GoodIn wsX4_undo (va_wsS RX4 79 yX4_bring wsX4_bring) := goodIn_app (goodIn_of _ (by decide +kernel)) ggX4_undo_X4_bring
set_option maxRecDepth 20000 in
theorem ggX4_undo_X4_anew : GoodIn wsX4_undo wsX4_anew := goodIn_r _ [12, 13, 14, 15, 16, 17, 18, 19, 20, 21, 22, 23, 24] (by decide +kernel) (by decide +kernel)
set_option maxRecDepth 20000 in
theorem gX4_undo_X4_anew : GoodIn wsX4_undo (wsV RX4 32 RX4 yX4_anew wsX4_anew) := goodIn_app (goodIn_of _ (by decide +kernel)) ggX4_undo_X4_anew
theorem dX4_undo_0 : decode cX4_undo 0 = .ok (.aload_n 0, 1) := by decide +kernel
theorem dX4_undo_1 : decode cX4_undo 1 = .ok (.getfield 76, 3) := by decide +kernel
theorem dX4_undo_4 : decode cX4_undo 4 = .ok (.ifCond .ne 6, 3) := by decide +kernel
theorem dX4_undo_7 : decode cX4_undo 7 = .ok (.ldc 110, 2) := by decide +kernel
theorem dX4_undo_9 : decode cX4_undo 9 = .ok (.ireturn, 1) := by decide +kernel
theorem dX4_undo_10 : decode cX4_undo 10 = .ok (.aload_n 0, 1) := by decide +kernel
theorem dX4_undo_11 : decode cX4_undo 11 = .ok (.dup, 1) := by decide +kernel
theorem dX4_undo_12 : decode cX4_undo 12 = .ok (.getfield 76, 3) := by decide +kernel
theorem dX4_undo_15 : decode cX4_undo 15 = .ok (.iconst 1, 1) := by decide +kernel
theorem dX4_undo_16 : decode cX4_undo 16 = .ok (.isub, 1) := by decide +kernel
theorem dX4_undo_17 : decode cX4_undo 17 = .ok (.putfield 76, 3) := by decide +kernel
theorem dX4_undo_20 : decode cX4_undo 20 = .ok (.aload_n 0, 1) := by decide +kernel
theorem dX4_undo_21 : decode cX4_undo 21 = .ok (.getfield 13, 3) := by decide +kernel
theorem dX4_undo_24 : decode cX4_undo 24 = .ok (.bipush 60, 2) := by decide +kernel
theorem dX4_undo_26 : decode cX4_undo 26 = .ok (.aload_n 0, 1) := by decide +kernel
theorem dX4_undo_27 : decode cX4_undo 27 = .ok (.getfield 76, 3) := by decide +kernel
theorem dX4_undo_30 : decode cX4_undo 30 = .ok (.imul, 1) := by decide +kernel
theorem dX4_undo_31 : decode cX4_undo 31 = .ok (.aload_n 0, 1) := by decide +kernel
theorem dX4_undo_32 : decode cX4_undo 32 = .ok (.getfield 7, 3) := by decide +kernel
theorem dX4_undo_35 : decode cX4_undo 35 = .ok (.iconst 0, 1) := by decide +kernel
theorem dX4_undo_36 : decode cX4_undo 36 = .ok (.bipush 60, 2) := by decide +kernel
theorem dX4_undo_38 : decode cX4_undo 38 = .ok (.invokestatic 79, 3) := by decide +kernel
theorem dX4_undo_41 : decode cX4_undo 41 = .ok (.aload_n 0, 1) := by decide +kernel
theorem dX4_undo_42 : decode cX4_undo 42 = .ok (.invokevirtual 32, 3) := by decide +kernel
theorem dX4_undo_45 : decode cX4_undo 45 = .ok (.aload_n 0, 1) := by decide +kernel
theorem dX4_undo_46 : decode cX4_undo 46 = .ok (.getfield 76, 3) := by decide +kernel
theorem dX4_undo_49 : decode cX4_undo 49 = .ok (.ireturn, 1) := by decide +kernel
set_option maxRecDepth 20000 in
theorem ggX4_common_X4_all : GoodIn wsX4_common wsX4_all := goodIn_r _ [6, 1, 11, 12, 13, 14, 15, 16, 17, 18, 19, 20] (by decide +kernel) (by decide +kernel)
set_option maxRecDepth 20000 in
theorem gX4_common_X4_all : GoodIn wsX4_common (wsV RX4 92 RX4 yX4_all wsX4_all) := goodIn_app (goodIn_of _ (by decide +kernel)) ggX4_common_X4_all
set_option maxRecDepth 20000 in
theorem ggX4_common_X4_of : GoodIn wsX4_common wsX4_of := goodIn_r _ [10, 1, 11, 12, 13, 14, 15, 16, 17, 18, 19, 20] (by decide +kernel) (by decide +kernel)
set_option maxRecDepth 20000 in
theorem gX4_common_X4_of : GoodIn wsX4_common (wsV RX4 50 RX4 yX4_of wsX4_of) := goodIn_app (goodIn_of _ (by decide +kernel)) ggX4_common_X4_of
theorem dX4_common_0 : decode cX4_common 0 = .ok (.aload_n 0, 1) := by decide +kernel
theorem dX4_common_1 : decode cX4_common 1 = .ok (.invokevirtual 92, 3) := by decide +kernel
theorem dX4_common_4 : decode cX4_common 4 = .ok (.istore_n 1, 1) := by decide +kernel
theorem dX4_common_5 : decode cX4_common 5 = .ok (.iconst 0, 1) := by decide +kernel
theorem dX4_common_6 : decode cX4_common 6 = .ok (.istore_n 2, 1) := by decide +kernel
theorem dX4_common_7 : decode cX4_common 7 = .ok (.iload_n 2, 1) := by decide +kernel
theorem dX4_common_8 : decode cX4_common 8 = .ok (.aload_n 0, 1) := by decide +kernel
theorem dX4_common_9 : decode cX4_common 9 = .ok (.getfield 7, 3) := by decide +kernel
theorem dX4_common_12 : decode cX4_common 12 = .ok (.iconst 1, 1) := by decide +kernel
theorem dX4_common_13 : decode cX4_common 13 = .ok (.iaload, 1) := by decide +kernel
theorem dX4_common_14 : decode cX4_common 14 = .ok (.if_icmp .ge 18, 3) := by decide +kernel
theorem dX4_common_17 : decode cX4_common 17 = .ok (.iload_n 1, 1) := by decide +kernel
theorem dX4_common_18 : decode cX4_common 18 = .ok (.aload_n 0, 1) := by decide +kernel
theorem dX4_common_19 : decode cX4_common 19 = .ok (.iload_n 2, 1) := by decide +kernel
theorem dX4_common_20 : decode cX4_common 20 = .ok (.iconst 4, 1) := by decide +kernel
theorem dX4_common_21 : decode cX4_common 21 = .ok (.invokevirtual 50, 3) := by decide +kernel
theorem dX4_common_24 : decode cX4_common 24 = .ok (.iand, 1) := by decide +kernel
theorem dX4_common_25 : decode cX4_common 25 = .ok (.istore_n 1, 1) := by decide +kernel
theorem dX4_common_26 : decode cX4_common 26 = .ok (.iinc 2 1, 3) := by decide +kernel
theorem dX4_common_29 : decode cX4_common 29 = .ok (.goto (-22), 3) := by decide +kernel
theorem dX4_common_32 : decode cX4_common 32 = .ok (.iload_n 1, 1) := by decide +kernel
theorem dX4_common_33 : decode cX4_common 33 = .ok (.ireturn, 1) := by decide +kernel
theorem dX4_groups_0 : decode cX4_groups 0 = .ok (.iconst 0, 1) := by decide +kernel
theorem dX4_groups_1 : decode cX4_groups 1 = .ok (.istore_n 1, 1) := by decide +kernel
theorem dX4_groups_2 : decode cX4_groups 2 = .ok (.iconst 0, 1) := by decide +kernel
theorem dX4_groups_3 : decode cX4_groups 3 = .ok (.istore_n 2, 1) := by decide +kernel
theorem dX4_groups_4 : decode cX4_groups 4 = .ok (.iload_n 2, 1) := by decide +kernel
theorem dX4_groups_5 : decode cX4_groups 5 = .ok (.aload_n 0, 1) := by decide +kernel
theorem dX4_groups_6 : decode cX4_groups 6 = .ok (.getfield 7, 3) := by decide +kernel
theorem dX4_groups_9 : decode cX4_groups 9 = .ok (.iconst 1, 1) := by decide +kernel
theorem dX4_groups_10 : decode cX4_groups 10 = .ok (.iaload, 1) := by decide +kernel
theorem dX4_groups_11 : decode cX4_groups 11 = .ok (.if_icmp .ge 27, 3) := by decide +kernel
theorem dX4_groups_14 : decode cX4_groups 14 = .ok (.iload_n 1, 1) := by decide +kernel
theorem dX4_groups_15 : decode cX4_groups 15 = .ok (.aload_n 0, 1) := by decide +kernel
theorem dX4_groups_16 : decode cX4_groups 16 = .ok (.getfield 23, 3) := by decide +kernel
theorem dX4_groups_19 : decode cX4_groups 19 = .ok (.iload_n 2, 1) := by decide +kernel
theorem dX4_groups_20 : decode cX4_groups 20 = .ok (.iaload, 1) := by decide +kernel
theorem dX4_groups_21 : decode cX4_groups 21 = .ok (.iload_n 2, 1) := by decide +kernel
theorem dX4_groups_22 : decode cX4_groups 22 = .ok (.if_icmp .ne 7, 3) := by decide +kernel
theorem dX4_groups_25 : decode cX4_groups 25 = .ok (.iconst 1, 1) := by decide +kernel
theorem dX4_groups_26 : decode cX4_groups 26 = .ok (.goto 4, 3) := by decide +kernel
theorem dX4_groups_29 : decode cX4_groups 29 = .ok (.iconst 0, 1) := by decide +kernel
theorem dX4_groups_30 : decode cX4_groups 30 = .ok (.iadd, 1) := by decide +kernel
theorem dX4_groups_31 : decode cX4_groups 31 = .ok (.istore_n 1, 1) := by decide +kernel
theorem dX4_groups_32 : decode cX4_groups 32 = .ok (.iinc 2 1, 3) := by decide +kernel
theorem dX4_groups_35 : decode cX4_groups 35 = .ok (.goto (-31), 3) := by decide +kernel
theorem dX4_groups_38 : decode cX4_groups 38 = .ok (.iload_n 1, 1) := by decide +kernel
theorem dX4_groups_39 : decode cX4_groups 39 = .ok (.ireturn, 1) := by decide +kernel
set_option maxRecDepth 20000 in
theorem ggX4_told_X4_common : GoodIn wsX4_told wsX4_common := goodIn_r _ [10, 1, 11, 12, 13, 9, 14, 15, 16, 17, 18, 24, 25, 26, 27, 28, 29, 30, 31, 32, 33] (by decide +kernel) (by decide +kernel)
set_option maxRecDepth 20000 in
theorem gX4_told_X4_common : GoodIn wsX4_told (wsV RX4 114 RX4 yX4_common wsX4_common) := goodIn_app (goodIn_of _ (by decide +kernel)) ggX4_told_X4_common
set_option maxRecDepth 20000 in
theorem ggX4_told_X4_groups : GoodIn wsX4_told wsX4_groups := goodIn_r _ [22, 1, 23, 24, 25, 26, 27, 28, 29, 30, 31, 32, 33] (by decide +kernel) (by decide +kernel)
set_option maxRecDepth 20000 in
theorem gX4_told_X4_groups : GoodIn wsX4_told (wsV RX4 117 RX4 yX4_groups wsX4_groups) := goodIn_app (goodIn_of _ (by decide +kernel)) ggX4_told_X4_groups
theorem dX4_told_0 : decode cX4_told 0 = .ok (.iload_n 1, 1) := by decide +kernel
theorem dX4_told_1 : decode cX4_told 1 = .ok (.tableswitch 111 0 8 #[51, 58, 63, 70, 77, 82, 87, 92, 106], 51) := by decide +kernel
theorem dX4_told_52 : decode cX4_told 52 = .ok (.aload_n 0, 1) := by decide +kernel
theorem dX4_told_53 : decode cX4_told 53 = .ok (.getfield 7, 3) := by decide +kernel
theorem dX4_told_56 : decode cX4_told 56 = .ok (.iconst 0, 1) := by decide +kernel
theorem dX4_told_57 : decode cX4_told 57 = .ok (.iaload, 1) := by decide +kernel
theorem dX4_told_58 : decode cX4_told 58 = .ok (.ireturn, 1) := by decide +kernel
theorem dX4_told_59 : decode cX4_told 59 = .ok (.aload_n 0, 1) := by decide +kernel
theorem dX4_told_60 : decode cX4_told 60 = .ok (.getfield 35, 3) := by decide +kernel
theorem dX4_told_63 : decode cX4_told 63 = .ok (.ireturn, 1) := by decide +kernel
theorem dX4_told_64 : decode cX4_told 64 = .ok (.aload_n 0, 1) := by decide +kernel
theorem dX4_told_65 : decode cX4_told 65 = .ok (.getfield 7, 3) := by decide +kernel
theorem dX4_told_68 : decode cX4_told 68 = .ok (.iconst 1, 1) := by decide +kernel
theorem dX4_told_69 : decode cX4_told 69 = .ok (.iaload, 1) := by decide +kernel
theorem dX4_told_70 : decode cX4_told 70 = .ok (.ireturn, 1) := by decide +kernel
theorem dX4_told_71 : decode cX4_told 71 = .ok (.aload_n 0, 1) := by decide +kernel
theorem dX4_told_72 : decode cX4_told 72 = .ok (.getfield 7, 3) := by decide +kernel
theorem dX4_told_75 : decode cX4_told 75 = .ok (.iconst 2, 1) := by decide +kernel
theorem dX4_told_76 : decode cX4_told 76 = .ok (.iaload, 1) := by decide +kernel
theorem dX4_told_77 : decode cX4_told 77 = .ok (.ireturn, 1) := by decide +kernel
theorem dX4_told_78 : decode cX4_told 78 = .ok (.aload_n 0, 1) := by decide +kernel
theorem dX4_told_79 : decode cX4_told 79 = .ok (.invokevirtual 114, 3) := by decide +kernel
theorem dX4_told_82 : decode cX4_told 82 = .ok (.ireturn, 1) := by decide +kernel
theorem dX4_told_83 : decode cX4_told 83 = .ok (.aload_n 0, 1) := by decide +kernel
theorem dX4_told_84 : decode cX4_told 84 = .ok (.getfield 73, 3) := by decide +kernel
theorem dX4_told_87 : decode cX4_told 87 = .ok (.ireturn, 1) := by decide +kernel
theorem dX4_told_88 : decode cX4_told 88 = .ok (.aload_n 0, 1) := by decide +kernel
theorem dX4_told_89 : decode cX4_told 89 = .ok (.invokevirtual 117, 3) := by decide +kernel
theorem dX4_told_92 : decode cX4_told 92 = .ok (.ireturn, 1) := by decide +kernel
theorem dX4_told_93 : decode cX4_told 93 = .ok (.aload_n 0, 1) := by decide +kernel
theorem dX4_told_94 : decode cX4_told 94 = .ok (.invokevirtual 117, 3) := by decide +kernel
theorem dX4_told_97 : decode cX4_told 97 = .ok (.iconst 1, 1) := by decide +kernel
theorem dX4_told_98 : decode cX4_told 98 = .ok (.if_icmp .ne 7, 3) := by decide +kernel
theorem dX4_told_101 : decode cX4_told 101 = .ok (.iconst 1, 1) := by decide +kernel
theorem dX4_told_102 : decode cX4_told 102 = .ok (.goto 4, 3) := by decide +kernel
theorem dX4_told_105 : decode cX4_told 105 = .ok (.iconst 0, 1) := by decide +kernel
theorem dX4_told_106 : decode cX4_told 106 = .ok (.ireturn, 1) := by decide +kernel
theorem dX4_told_107 : decode cX4_told 107 = .ok (.aload_n 0, 1) := by decide +kernel
theorem dX4_told_108 : decode cX4_told 108 = .ok (.getfield 76, 3) := by decide +kernel
theorem dX4_told_111 : decode cX4_told 111 = .ok (.ireturn, 1) := by decide +kernel
theorem dX4_told_112 : decode cX4_told 112 = .ok (.ldc 83, 2) := by decide +kernel
theorem dX4_told_114 : decode cX4_told 114 = .ok (.ireturn, 1) := by decide +kernel
set_option maxRecDepth 20000 in
theorem ggX4_userOf_X4_isUser : GoodIn wsX4_userOf wsX4_isUser := goodIn_r _ [9, 3, 10, 11, 8, 12, 17, 18, 19, 20, 21, 22, 23, 24, 25, 26] (by decide +kernel) (by decide +kernel)
set_option maxRecDepth 20000 in
theorem gX4_userOf_X4_isUser : GoodIn wsX4_userOf (wsV RX4 47 RX4 yX4_isUser wsX4_isUser) := goodIn_app (goodIn_of _ (by decide +kernel)) ggX4_userOf_X4_isUser
set_option maxRecDepth 20000 in
theorem ggX4_userOf_X4_in : GoodIn wsX4_userOf wsX4_in := goodIn_r _ [12] (by decide +kernel) (by decide +kernel)
set_option maxRecDepth 20000 in
theorem gX4_userOf_X4_in : GoodIn wsX4_userOf (va_wsS RX4 43 yX4_in wsX4_in) := goodIn_app (goodIn_of _ (by decide +kernel)) ggX4_userOf_X4_in
set_option maxRecDepth 20000 in
theorem ggX4_userOf_X4_of : GoodIn wsX4_userOf wsX4_of := goodIn_r _ [16, 3, 17, 18, 19, 20, 21, 22, 23, 24, 25, 26] (by decide +kernel) (by decide +kernel)
set_option maxRecDepth 20000 in
theorem gX4_userOf_X4_of : GoodIn wsX4_userOf (wsV RX4 50 RX4 yX4_of wsX4_of) := goodIn_app (goodIn_of _ (by decide +kernel)) ggX4_userOf_X4_of
theorem dX4_userOf_0 : decode cX4_userOf 0 = .ok (.aload_n 0, 1) := by decide +kernel
theorem dX4_userOf_1 : decode cX4_userOf 1 = .ok (.iload_n 1, 1) := by decide +kernel
theorem dX4_userOf_2 : decode cX4_userOf 2 = .ok (.invokevirtual 47, 3) := by decide +kernel
theorem dX4_userOf_5 : decode cX4_userOf 5 = .ok (.ifCond .ne 6, 3) := by decide +kernel
theorem dX4_userOf_8 : decode cX4_userOf 8 = .ok (.ldc 96, 2) := by decide +kernel
theorem dX4_userOf_10 : decode cX4_userOf 10 = .ok (.ireturn, 1) := by decide +kernel
theorem dX4_userOf_11 : decode cX4_userOf 11 = .ok (.iload_n 2, 1) := by decide +kernel
theorem dX4_userOf_12 : decode cX4_userOf 12 = .ok (.iconst 0, 1) := by decide +kernel
theorem dX4_userOf_13 : decode cX4_userOf 13 = .ok (.bipush 6, 2) := by decide +kernel
theorem dX4_userOf_15 : decode cX4_userOf 15 = .ok (.invokestatic 43, 3) := by decide +kernel
theorem dX4_userOf_18 : decode cX4_userOf 18 = .ok (.ifCond .ne 6, 3) := by decide +kernel
theorem dX4_userOf_21 : decode cX4_userOf 21 = .ok (.ldc 83, 2) := by decide +kernel
theorem dX4_userOf_23 : decode cX4_userOf 23 = .ok (.ireturn, 1) := by decide +kernel
theorem dX4_userOf_24 : decode cX4_userOf 24 = .ok (.iload_n 2, 1) := by decide +kernel
theorem dX4_userOf_25 : decode cX4_userOf 25 = .ok (.iconst 5, 1) := by decide +kernel
theorem dX4_userOf_26 : decode cX4_userOf 26 = .ok (.if_icmp .ge 10, 3) := by decide +kernel
theorem dX4_userOf_29 : decode cX4_userOf 29 = .ok (.aload_n 0, 1) := by decide +kernel
theorem dX4_userOf_30 : decode cX4_userOf 30 = .ok (.iload_n 1, 1) := by decide +kernel
theorem dX4_userOf_31 : decode cX4_userOf 31 = .ok (.iload_n 2, 1) := by decide +kernel
theorem dX4_userOf_32 : decode cX4_userOf 32 = .ok (.invokevirtual 50, 3) := by decide +kernel
theorem dX4_userOf_35 : decode cX4_userOf 35 = .ok (.ireturn, 1) := by decide +kernel
theorem dX4_userOf_36 : decode cX4_userOf 36 = .ok (.iconst 0, 1) := by decide +kernel
theorem dX4_userOf_37 : decode cX4_userOf 37 = .ok (.istore_n 3, 1) := by decide +kernel
theorem dX4_userOf_38 : decode cX4_userOf 38 = .ok (.iconst 0, 1) := by decide +kernel
theorem dX4_userOf_39 : decode cX4_userOf 39 = .ok (.istore 4, 2) := by decide +kernel
theorem dX4_userOf_41 : decode cX4_userOf 41 = .ok (.iload 4, 2) := by decide +kernel
theorem dX4_userOf_43 : decode cX4_userOf 43 = .ok (.aload_n 0, 1) := by decide +kernel
theorem dX4_userOf_44 : decode cX4_userOf 44 = .ok (.getfield 7, 3) := by decide +kernel
theorem dX4_userOf_47 : decode cX4_userOf 47 = .ok (.iconst 1, 1) := by decide +kernel
theorem dX4_userOf_48 : decode cX4_userOf 48 = .ok (.iaload, 1) := by decide +kernel
theorem dX4_userOf_49 : decode cX4_userOf 49 = .ok (.if_icmp .ge 33, 3) := by decide +kernel
theorem dX4_userOf_52 : decode cX4_userOf 52 = .ok (.iload_n 3, 1) := by decide +kernel
theorem dX4_userOf_53 : decode cX4_userOf 53 = .ok (.aload_n 0, 1) := by decide +kernel
theorem dX4_userOf_54 : decode cX4_userOf 54 = .ok (.getfield 23, 3) := by decide +kernel
theorem dX4_userOf_57 : decode cX4_userOf 57 = .ok (.iload 4, 2) := by decide +kernel
theorem dX4_userOf_59 : decode cX4_userOf 59 = .ok (.iaload, 1) := by decide +kernel
theorem dX4_userOf_60 : decode cX4_userOf 60 = .ok (.aload_n 0, 1) := by decide +kernel
theorem dX4_userOf_61 : decode cX4_userOf 61 = .ok (.getfield 23, 3) := by decide +kernel
theorem dX4_userOf_64 : decode cX4_userOf 64 = .ok (.iload_n 1, 1) := by decide +kernel
theorem dX4_userOf_65 : decode cX4_userOf 65 = .ok (.iaload, 1) := by decide +kernel
theorem dX4_userOf_66 : decode cX4_userOf 66 = .ok (.if_icmp .ne 7, 3) := by decide +kernel
theorem dX4_userOf_69 : decode cX4_userOf 69 = .ok (.iconst 1, 1) := by decide +kernel
theorem dX4_userOf_70 : decode cX4_userOf 70 = .ok (.goto 4, 3) := by decide +kernel
theorem dX4_userOf_73 : decode cX4_userOf 73 = .ok (.iconst 0, 1) := by decide +kernel
theorem dX4_userOf_74 : decode cX4_userOf 74 = .ok (.iadd, 1) := by decide +kernel
theorem dX4_userOf_75 : decode cX4_userOf 75 = .ok (.istore_n 3, 1) := by decide +kernel
theorem dX4_userOf_76 : decode cX4_userOf 76 = .ok (.iinc 4 1, 3) := by decide +kernel
theorem dX4_userOf_79 : decode cX4_userOf 79 = .ok (.goto (-38), 3) := by decide +kernel
theorem dX4_userOf_82 : decode cX4_userOf 82 = .ok (.iload_n 2, 1) := by decide +kernel
theorem dX4_userOf_83 : decode cX4_userOf 83 = .ok (.iconst 5, 1) := by decide +kernel
theorem dX4_userOf_84 : decode cX4_userOf 84 = .ok (.if_icmp .ne 12, 3) := by decide +kernel
theorem dX4_userOf_87 : decode cX4_userOf 87 = .ok (.aload_n 0, 1) := by decide +kernel
theorem dX4_userOf_88 : decode cX4_userOf 88 = .ok (.getfield 23, 3) := by decide +kernel
theorem dX4_userOf_91 : decode cX4_userOf 91 = .ok (.iload_n 1, 1) := by decide +kernel
theorem dX4_userOf_92 : decode cX4_userOf 92 = .ok (.iaload, 1) := by decide +kernel
theorem dX4_userOf_93 : decode cX4_userOf 93 = .ok (.goto 4, 3) := by decide +kernel
theorem dX4_userOf_96 : decode cX4_userOf 96 = .ok (.iload_n 3, 1) := by decide +kernel
theorem dX4_userOf_97 : decode cX4_userOf 97 = .ok (.ireturn, 1) := by decide +kernel
set_option maxRecDepth 20000 in
theorem ggX4_pointsAt_X4_isUser : GoodIn wsX4_pointsAt wsX4_isUser := goodIn_r _ [7, 8, 9, 10, 6, 11, 21, 22, 23, 24, 25, 26, 27, 28, 29, 30] (by decide +kernel) (by decide +kernel)
set_option maxRecDepth 20000 in
theorem gX4_pointsAt_X4_isUser : GoodIn wsX4_pointsAt (wsV RX4 47 RX4 yX4_isUser wsX4_isUser) := goodIn_app (goodIn_of _ (by decide +kernel)) ggX4_pointsAt_X4_isUser
set_option maxRecDepth 20000 in
theorem ggX4_pointsAt_X4_in : GoodIn wsX4_pointsAt wsX4_in := goodIn_r _ [11] (by decide +kernel) (by decide +kernel)
set_option maxRecDepth 20000 in
theorem gX4_pointsAt_X4_in : GoodIn wsX4_pointsAt (va_wsS RX4 43 yX4_in wsX4_in) := goodIn_app (goodIn_of _ (by decide +kernel)) ggX4_pointsAt_X4_in
set_option maxRecDepth 20000 in
theorem ggX4_pointsAt_X4_of : GoodIn wsX4_pointsAt wsX4_of := goodIn_r _ [15, 8, 21, 22, 23, 24, 25, 26, 27, 28, 29, 30] (by decide +kernel) (by decide +kernel)
set_option maxRecDepth 20000 in
theorem gX4_pointsAt_X4_of : GoodIn wsX4_pointsAt (wsV RX4 50 RX4 yX4_of wsX4_of) := goodIn_app (goodIn_of _ (by decide +kernel)) ggX4_pointsAt_X4_of
set_option maxRecDepth 20000 in
theorem ggX4_pointsAt_X4_points : GoodIn wsX4_pointsAt wsX4_points := goodIn_r _ [19, 8, 20, 12, 13, 14, 6, 15, 21, 22, 23, 24, 25, 26, 27, 28, 29, 30] (by decide +kernel) (by decide +kernel)
set_option maxRecDepth 20000 in
theorem gX4_pointsAt_X4_points : GoodIn wsX4_pointsAt (wsV RX4 54 RX4 yX4_points wsX4_points) := goodIn_app (goodIn_of _ (by decide +kernel)) ggX4_pointsAt_X4_points
theorem dX4_pointsAt_0 : decode cX4_pointsAt 0 = .ok (.aload_n 0, 1) := by decide +kernel
theorem dX4_pointsAt_1 : decode cX4_pointsAt 1 = .ok (.iload_n 1, 1) := by decide +kernel
theorem dX4_pointsAt_2 : decode cX4_pointsAt 2 = .ok (.invokevirtual 47, 3) := by decide +kernel
theorem dX4_pointsAt_5 : decode cX4_pointsAt 5 = .ok (.ifCond .ne 6, 3) := by decide +kernel
theorem dX4_pointsAt_8 : decode cX4_pointsAt 8 = .ok (.ldc 96, 2) := by decide +kernel
theorem dX4_pointsAt_10 : decode cX4_pointsAt 10 = .ok (.ireturn, 1) := by decide +kernel
theorem dX4_pointsAt_11 : decode cX4_pointsAt 11 = .ok (.iload_n 2, 1) := by decide +kernel
theorem dX4_pointsAt_12 : decode cX4_pointsAt 12 = .ok (.iconst 0, 1) := by decide +kernel
theorem dX4_pointsAt_13 : decode cX4_pointsAt 13 = .ok (.sipush 3000, 3) := by decide +kernel
theorem dX4_pointsAt_16 : decode cX4_pointsAt 16 = .ok (.invokestatic 43, 3) := by decide +kernel
theorem dX4_pointsAt_19 : decode cX4_pointsAt 19 = .ok (.ifCond .ne 6, 3) := by decide +kernel
theorem dX4_pointsAt_22 : decode cX4_pointsAt 22 = .ok (.ldc 83, 2) := by decide +kernel
theorem dX4_pointsAt_24 : decode cX4_pointsAt 24 = .ok (.ireturn, 1) := by decide +kernel
theorem dX4_pointsAt_25 : decode cX4_pointsAt 25 = .ok (.iload_n 2, 1) := by decide +kernel
theorem dX4_pointsAt_26 : decode cX4_pointsAt 26 = .ok (.aload_n 0, 1) := by decide +kernel
theorem dX4_pointsAt_27 : decode cX4_pointsAt 27 = .ok (.iload_n 1, 1) := by decide +kernel
theorem dX4_pointsAt_28 : decode cX4_pointsAt 28 = .ok (.iconst 3, 1) := by decide +kernel
theorem dX4_pointsAt_29 : decode cX4_pointsAt 29 = .ok (.invokevirtual 50, 3) := by decide +kernel
theorem dX4_pointsAt_32 : decode cX4_pointsAt 32 = .ok (.if_icmp .ge 7, 3) := by decide +kernel
theorem dX4_pointsAt_35 : decode cX4_pointsAt 35 = .ok (.iconst (-1), 1) := by decide +kernel
theorem dX4_pointsAt_36 : decode cX4_pointsAt 36 = .ok (.goto 16, 3) := by decide +kernel
theorem dX4_pointsAt_39 : decode cX4_pointsAt 39 = .ok (.aload_n 0, 1) := by decide +kernel
theorem dX4_pointsAt_40 : decode cX4_pointsAt 40 = .ok (.iload_n 1, 1) := by decide +kernel
theorem dX4_pointsAt_41 : decode cX4_pointsAt 41 = .ok (.iload_n 2, 1) := by decide +kernel
theorem dX4_pointsAt_42 : decode cX4_pointsAt 42 = .ok (.aload_n 0, 1) := by decide +kernel
theorem dX4_pointsAt_43 : decode cX4_pointsAt 43 = .ok (.iload_n 1, 1) := by decide +kernel
theorem dX4_pointsAt_44 : decode cX4_pointsAt 44 = .ok (.iconst 3, 1) := by decide +kernel
theorem dX4_pointsAt_45 : decode cX4_pointsAt 45 = .ok (.invokevirtual 50, 3) := by decide +kernel
theorem dX4_pointsAt_48 : decode cX4_pointsAt 48 = .ok (.isub, 1) := by decide +kernel
theorem dX4_pointsAt_49 : decode cX4_pointsAt 49 = .ok (.invokevirtual 54, 3) := by decide +kernel
theorem dX4_pointsAt_52 : decode cX4_pointsAt 52 = .ok (.ireturn, 1) := by decide +kernel
set_option maxRecDepth 20000 in
theorem ggX4_on_X4_isUser : GoodIn wsX4_on wsX4_isUser := goodIn_r _ [7, 8, 9, 10, 6, 11, 40, 41, 42, 43, 44, 45, 46, 47, 48, 49] (by decide +kernel) (by decide +kernel)
set_option maxRecDepth 20000 in
theorem gX4_on_X4_isUser : GoodIn wsX4_on (wsV RX4 47 RX4 yX4_isUser wsX4_isUser) := goodIn_app (goodIn_of _ (by decide +kernel)) ggX4_on_X4_isUser
set_option maxRecDepth 20000 in
theorem ggX4_on_X4_in : GoodIn wsX4_on wsX4_in := goodIn_r _ [11] (by decide +kernel) (by decide +kernel)
set_option maxRecDepth 20000 in
theorem gX4_on_X4_in : GoodIn wsX4_on (va_wsS RX4 43 yX4_in wsX4_in) := goodIn_app (goodIn_of _ (by decide +kernel)) ggX4_on_X4_in
set_option maxRecDepth 20000 in
theorem ggX4_on_X4_place : GoodIn wsX4_on wsX4_place := goodIn_r _ [15, 16, 17, 18, 6, 19, 20, 21, 22, 23, 8, 24, 25, 26, 27, 28, 29, 30, 31, 32, 33, 34, 35, 36, 37, 38, 39, 9, 10, 11, 40, 41, 42, 43, 44, 45, 46, 47, 48, 49] (by decide +kernel) (by decide +kernel)
set_option maxRecDepth 20000 in
theorem gX4_on_X4_place : GoodIn wsX4_on (wsV RX4 70 RX4 yX4_place wsX4_place) := goodIn_app (goodIn_of _ (by decide +kernel)) ggX4_on_X4_place
theorem dX4_on_0 : decode cX4_on 0 = .ok (.aload_n 0, 1) := by decide +kernel
theorem dX4_on_1 : decode cX4_on 1 = .ok (.iload_n 1, 1) := by decide +kernel
theorem dX4_on_2 : decode cX4_on 2 = .ok (.invokevirtual 47, 3) := by decide +kernel
theorem dX4_on_5 : decode cX4_on 5 = .ok (.ifCond .ne 6, 3) := by decide +kernel
theorem dX4_on_8 : decode cX4_on 8 = .ok (.ldc 96, 2) := by decide +kernel
theorem dX4_on_10 : decode cX4_on 10 = .ok (.ireturn, 1) := by decide +kernel
theorem dX4_on_11 : decode cX4_on 11 = .ok (.iload_n 2, 1) := by decide +kernel
theorem dX4_on_12 : decode cX4_on 12 = .ok (.iconst 0, 1) := by decide +kernel
theorem dX4_on_13 : decode cX4_on 13 = .ok (.sipush 3000, 3) := by decide +kernel
theorem dX4_on_16 : decode cX4_on 16 = .ok (.invokestatic 43, 3) := by decide +kernel
theorem dX4_on_19 : decode cX4_on 19 = .ok (.ifCond .eq 12, 3) := by decide +kernel
theorem dX4_on_22 : decode cX4_on 22 = .ok (.aload_n 0, 1) := by decide +kernel
theorem dX4_on_23 : decode cX4_on 23 = .ok (.iload_n 1, 1) := by decide +kernel
theorem dX4_on_24 : decode cX4_on 24 = .ok (.iload_n 2, 1) := by decide +kernel
theorem dX4_on_25 : decode cX4_on 25 = .ok (.invokevirtual 70, 3) := by decide +kernel
theorem dX4_on_28 : decode cX4_on 28 = .ok (.goto 5, 3) := by decide +kernel
theorem dX4_on_31 : decode cX4_on 31 = .ok (.ldc 83, 2) := by decide +kernel
theorem dX4_on_33 : decode cX4_on 33 = .ok (.ireturn, 1) := by decide +kernel
set_option maxRecDepth 20000 in
theorem ggX4_why_X4_isUser : GoodIn wsX4_why wsX4_isUser := goodIn_r _ [7, 8, 9, 10, 6, 11, 36, 37, 38, 39, 40, 41, 42, 43, 44, 45] (by decide +kernel) (by decide +kernel)
set_option maxRecDepth 20000 in
theorem gX4_why_X4_isUser : GoodIn wsX4_why (wsV RX4 47 RX4 yX4_isUser wsX4_isUser) := goodIn_app (goodIn_of _ (by decide +kernel)) ggX4_why_X4_isUser
set_option maxRecDepth 20000 in
theorem ggX4_why_X4_in : GoodIn wsX4_why wsX4_in := goodIn_r _ [11] (by decide +kernel) (by decide +kernel)
set_option maxRecDepth 20000 in
theorem gX4_why_X4_in : GoodIn wsX4_why (va_wsS RX4 43 yX4_in wsX4_in) := goodIn_app (goodIn_of _ (by decide +kernel)) ggX4_why_X4_in
set_option maxRecDepth 20000 in
theorem ggX4_why_X4_whyNot : GoodIn wsX4_why wsX4_whyNot := goodIn_r _ [15, 16, 17, 18, 6, 19, 8, 20, 21, 22, 23, 24, 25, 26, 27, 28, 29, 30, 31, 32, 33, 34, 35, 9, 10, 11, 36, 37, 38, 39, 40, 41, 42, 43, 44, 45] (by decide +kernel) (by decide +kernel)
set_option maxRecDepth 20000 in
theorem gX4_why_X4_whyNot : GoodIn wsX4_why (wsV RX4 67 RX4 yX4_whyNot wsX4_whyNot) := goodIn_app (goodIn_of _ (by decide +kernel)) ggX4_why_X4_whyNot
theorem dX4_why_0 : decode cX4_why 0 = .ok (.aload_n 0, 1) := by decide +kernel
theorem dX4_why_1 : decode cX4_why 1 = .ok (.iload_n 1, 1) := by decide +kernel
theorem dX4_why_2 : decode cX4_why 2 = .ok (.invokevirtual 47, 3) := by decide +kernel
theorem dX4_why_5 : decode cX4_why 5 = .ok (.ifCond .ne 6, 3) := by decide +kernel
theorem dX4_why_8 : decode cX4_why 8 = .ok (.ldc 96, 2) := by decide +kernel
theorem dX4_why_10 : decode cX4_why 10 = .ok (.ireturn, 1) := by decide +kernel
theorem dX4_why_11 : decode cX4_why 11 = .ok (.iload_n 2, 1) := by decide +kernel
theorem dX4_why_12 : decode cX4_why 12 = .ok (.iconst 0, 1) := by decide +kernel
theorem dX4_why_13 : decode cX4_why 13 = .ok (.sipush 3000, 3) := by decide +kernel
theorem dX4_why_16 : decode cX4_why 16 = .ok (.invokestatic 43, 3) := by decide +kernel
theorem dX4_why_19 : decode cX4_why 19 = .ok (.ifCond .eq 12, 3) := by decide +kernel
theorem dX4_why_22 : decode cX4_why 22 = .ok (.aload_n 0, 1) := by decide +kernel
theorem dX4_why_23 : decode cX4_why 23 = .ok (.iload_n 1, 1) := by decide +kernel
theorem dX4_why_24 : decode cX4_why 24 = .ok (.iload_n 2, 1) := by decide +kernel
theorem dX4_why_25 : decode cX4_why 25 = .ok (.invokevirtual 67, 3) := by decide +kernel
theorem dX4_why_28 : decode cX4_why 28 = .ok (.goto 5, 3) := by decide +kernel
theorem dX4_why_31 : decode cX4_why 31 = .ok (.ldc 83, 2) := by decide +kernel
theorem dX4_why_33 : decode cX4_why 33 = .ok (.ireturn, 1) := by decide +kernel
set_option maxRecDepth 20000 in
theorem ggX4_first_X4_areTwo : GoodIn wsX4_first wsX4_areTwo := goodIn_r _ [6, 7, 8, 9, 5, 10, 11, 12, 13, 14, 47, 48, 49, 50, 51, 52, 53, 54, 55, 56] (by decide +kernel) (by decide +kernel)
set_option maxRecDepth 20000 in
theorem gX4_first_X4_areTwo : GoodIn wsX4_first (wsV RX4 120 RX4 yX4_areTwo wsX4_areTwo) := goodIn_app (goodIn_of _ (by decide +kernel)) ggX4_first_X4_areTwo
set_option maxRecDepth 20000 in
theorem ggX4_first_X4_isMet : GoodIn wsX4_first wsX4_isMet := goodIn_r _ [18, 19, 20, 21, 5, 22, 23, 24, 25, 26, 27, 28, 29, 30, 11, 31, 32, 33, 34, 35, 36, 37, 38, 39, 40, 41, 42, 43, 44, 45, 46, 12, 13, 14, 47, 48, 49, 50, 51, 52, 53, 54, 55, 56] (by decide +kernel) (by decide +kernel)
set_option maxRecDepth 20000 in
theorem gX4_first_X4_isMet : GoodIn wsX4_first (wsV RX4 123 RX4 yX4_isMet wsX4_isMet) := goodIn_app (goodIn_of _ (by decide +kernel)) ggX4_first_X4_isMet
theorem dX4_first_0 : decode cX4_first 0 = .ok (.aload_n 0, 1) := by decide +kernel
theorem dX4_first_1 : decode cX4_first 1 = .ok (.iload_n 1, 1) := by decide +kernel
theorem dX4_first_2 : decode cX4_first 2 = .ok (.iload_n 2, 1) := by decide +kernel
theorem dX4_first_3 : decode cX4_first 3 = .ok (.invokevirtual 120, 3) := by decide +kernel
theorem dX4_first_6 : decode cX4_first 6 = .ok (.ifCond .ne 6, 3) := by decide +kernel
theorem dX4_first_9 : decode cX4_first 9 = .ok (.ldc 96, 2) := by decide +kernel
theorem dX4_first_11 : decode cX4_first 11 = .ok (.ireturn, 1) := by decide +kernel
theorem dX4_first_12 : decode cX4_first 12 = .ok (.iconst 0, 1) := by decide +kernel
theorem dX4_first_13 : decode cX4_first 13 = .ok (.istore_n 3, 1) := by decide +kernel
theorem dX4_first_14 : decode cX4_first 14 = .ok (.iload_n 3, 1) := by decide +kernel
theorem dX4_first_15 : decode cX4_first 15 = .ok (.sipush 1500, 3) := by decide +kernel
theorem dX4_first_18 : decode cX4_first 18 = .ok (.if_icmp .ge 19, 3) := by decide +kernel
theorem dX4_first_21 : decode cX4_first 21 = .ok (.aload_n 0, 1) := by decide +kernel
theorem dX4_first_22 : decode cX4_first 22 = .ok (.iload_n 1, 1) := by decide +kernel
theorem dX4_first_23 : decode cX4_first 23 = .ok (.iload_n 2, 1) := by decide +kernel
theorem dX4_first_24 : decode cX4_first 24 = .ok (.iload_n 3, 1) := by decide +kernel
theorem dX4_first_25 : decode cX4_first 25 = .ok (.invokevirtual 123, 3) := by decide +kernel
theorem dX4_first_28 : decode cX4_first 28 = .ok (.ifCond .ne 9, 3) := by decide +kernel
theorem dX4_first_31 : decode cX4_first 31 = .ok (.iinc 3 1, 3) := by decide +kernel
theorem dX4_first_34 : decode cX4_first 34 = .ok (.goto (-20), 3) := by decide +kernel
theorem dX4_first_37 : decode cX4_first 37 = .ok (.iload_n 3, 1) := by decide +kernel
theorem dX4_first_38 : decode cX4_first 38 = .ok (.sipush 1500, 3) := by decide +kernel
theorem dX4_first_41 : decode cX4_first 41 = .ok (.if_icmp .ge 7, 3) := by decide +kernel
theorem dX4_first_44 : decode cX4_first 44 = .ok (.iload_n 3, 1) := by decide +kernel
theorem dX4_first_45 : decode cX4_first 45 = .ok (.goto 4, 3) := by decide +kernel
theorem dX4_first_48 : decode cX4_first 48 = .ok (.iconst (-1), 1) := by decide +kernel
theorem dX4_first_49 : decode cX4_first 49 = .ok (.ireturn, 1) := by decide +kernel
set_option maxRecDepth 20000 in
theorem ggX4_worstOf_X4_of : GoodIn wsX4_worstOf wsX4_of := goodIn_r _ [6, 7, 20, 21, 22, 23, 24, 25, 26, 27, 28, 29] (by decide +kernel) (by decide +kernel)
set_option maxRecDepth 20000 in
theorem gX4_worstOf_X4_of : GoodIn wsX4_worstOf (wsV RX4 50 RX4 yX4_of wsX4_of) := goodIn_app (goodIn_of _ (by decide +kernel)) ggX4_worstOf_X4_of
set_option maxRecDepth 20000 in
theorem ggX4_worstOf_X4_lands : GoodIn wsX4_worstOf wsX4_lands := goodIn_r _ [11, 2, 3, 4, 5, 6, 7, 12, 13, 14, 15, 16, 17, 18, 19, 20, 21, 22, 23, 24, 25, 26, 27, 28, 29] (by decide +kernel) (by decide +kernel)
set_option maxRecDepth 20000 in
theorem gX4_worstOf_X4_lands : GoodIn wsX4_worstOf (wsV RX4 61 RX4 yX4_lands wsX4_lands) := goodIn_app (goodIn_of _ (by decide +kernel)) ggX4_worstOf_X4_lands
theorem dX4_worstOf_0 : decode cX4_worstOf 0 = .ok (.iconst 0, 1) := by decide +kernel
theorem dX4_worstOf_1 : decode cX4_worstOf 1 = .ok (.istore 4, 2) := by decide +kernel
theorem dX4_worstOf_3 : decode cX4_worstOf 3 = .ok (.iconst 0, 1) := by decide +kernel
theorem dX4_worstOf_4 : decode cX4_worstOf 4 = .ok (.istore 5, 2) := by decide +kernel
theorem dX4_worstOf_6 : decode cX4_worstOf 6 = .ok (.iload 5, 2) := by decide +kernel
theorem dX4_worstOf_8 : decode cX4_worstOf 8 = .ok (.iload_n 3, 1) := by decide +kernel
theorem dX4_worstOf_9 : decode cX4_worstOf 9 = .ok (.if_icmp .gt 84, 3) := by decide +kernel
theorem dX4_worstOf_12 : decode cX4_worstOf 12 = .ok (.iconst 0, 1) := by decide +kernel
theorem dX4_worstOf_13 : decode cX4_worstOf 13 = .ok (.istore 6, 2) := by decide +kernel
theorem dX4_worstOf_15 : decode cX4_worstOf 15 = .ok (.iload 6, 2) := by decide +kernel
theorem dX4_worstOf_17 : decode cX4_worstOf 17 = .ok (.sipush 1500, 3) := by decide +kernel
theorem dX4_worstOf_20 : decode cX4_worstOf 20 = .ok (.if_icmp .ge 38, 3) := by decide +kernel
theorem dX4_worstOf_23 : decode cX4_worstOf 23 = .ok (.aload_n 0, 1) := by decide +kernel
theorem dX4_worstOf_24 : decode cX4_worstOf 24 = .ok (.iload_n 1, 1) := by decide +kernel
theorem dX4_worstOf_25 : decode cX4_worstOf 25 = .ok (.iconst 4, 1) := by decide +kernel
theorem dX4_worstOf_26 : decode cX4_worstOf 26 = .ok (.invokevirtual 50, 3) := by decide +kernel
theorem dX4_worstOf_29 : decode cX4_worstOf 29 = .ok (.ifCond .eq 23, 3) := by decide +kernel
theorem dX4_worstOf_32 : decode cX4_worstOf 32 = .ok (.aload_n 0, 1) := by decide +kernel
theorem dX4_worstOf_33 : decode cX4_worstOf 33 = .ok (.iload_n 1, 1) := by decide +kernel
theorem dX4_worstOf_34 : decode cX4_worstOf 34 = .ok (.iload 6, 2) := by decide +kernel
theorem dX4_worstOf_36 : decode cX4_worstOf 36 = .ok (.iload 5, 2) := by decide +kernel
theorem dX4_worstOf_38 : decode cX4_worstOf 38 = .ok (.iadd, 1) := by decide +kernel
theorem dX4_worstOf_39 : decode cX4_worstOf 39 = .ok (.invokevirtual 61, 3) := by decide +kernel
theorem dX4_worstOf_42 : decode cX4_worstOf 42 = .ok (.aload_n 0, 1) := by decide +kernel
theorem dX4_worstOf_43 : decode cX4_worstOf 43 = .ok (.iload_n 2, 1) := by decide +kernel
theorem dX4_worstOf_44 : decode cX4_worstOf 44 = .ok (.iload 6, 2) := by decide +kernel
theorem dX4_worstOf_46 : decode cX4_worstOf 46 = .ok (.invokevirtual 61, 3) := by decide +kernel
theorem dX4_worstOf_49 : decode cX4_worstOf 49 = .ok (.if_icmp .eq 9, 3) := by decide +kernel
theorem dX4_worstOf_52 : decode cX4_worstOf 52 = .ok (.iinc 6 1, 3) := by decide +kernel
theorem dX4_worstOf_55 : decode cX4_worstOf 55 = .ok (.goto (-40), 3) := by decide +kernel
theorem dX4_worstOf_58 : decode cX4_worstOf 58 = .ok (.iload 6, 2) := by decide +kernel
theorem dX4_worstOf_60 : decode cX4_worstOf 60 = .ok (.sipush 1500, 3) := by decide +kernel
theorem dX4_worstOf_63 : decode cX4_worstOf 63 = .ok (.if_icmp .ne 8, 3) := by decide +kernel
theorem dX4_worstOf_66 : decode cX4_worstOf 66 = .ok (.ldc 126, 2) := by decide +kernel
theorem dX4_worstOf_68 : decode cX4_worstOf 68 = .ok (.goto 17, 3) := by decide +kernel
theorem dX4_worstOf_71 : decode cX4_worstOf 71 = .ok (.iload 6, 2) := by decide +kernel
theorem dX4_worstOf_73 : decode cX4_worstOf 73 = .ok (.iload 4, 2) := by decide +kernel
theorem dX4_worstOf_75 : decode cX4_worstOf 75 = .ok (.if_icmp .le 8, 3) := by decide +kernel
theorem dX4_worstOf_78 : decode cX4_worstOf 78 = .ok (.iload 6, 2) := by decide +kernel
theorem dX4_worstOf_80 : decode cX4_worstOf 80 = .ok (.goto 5, 3) := by decide +kernel
theorem dX4_worstOf_83 : decode cX4_worstOf 83 = .ok (.iload 4, 2) := by decide +kernel
theorem dX4_worstOf_85 : decode cX4_worstOf 85 = .ok (.istore 4, 2) := by decide +kernel
theorem dX4_worstOf_87 : decode cX4_worstOf 87 = .ok (.iinc 5 1, 3) := by decide +kernel
theorem dX4_worstOf_90 : decode cX4_worstOf 90 = .ok (.goto (-84), 3) := by decide +kernel
theorem dX4_worstOf_93 : decode cX4_worstOf 93 = .ok (.iload 4, 2) := by decide +kernel
theorem dX4_worstOf_95 : decode cX4_worstOf 95 = .ok (.ireturn, 1) := by decide +kernel
set_option maxRecDepth 20000 in
theorem ggX4_worst_X4_areTwo : GoodIn wsX4_worst wsX4_areTwo := goodIn_r _ [7, 8, 9, 10, 6, 11, 12, 13, 14, 15, 37, 38, 39, 40, 41, 42, 43, 44, 45, 46] (by decide +kernel) (by decide +kernel)
set_option maxRecDepth 20000 in
theorem gX4_worst_X4_areTwo : GoodIn wsX4_worst (wsV RX4 120 RX4 yX4_areTwo wsX4_areTwo) := goodIn_app (goodIn_of _ (by decide +kernel)) ggX4_worst_X4_areTwo
set_option maxRecDepth 20000 in
theorem ggX4_worst_X4_in : GoodIn wsX4_worst wsX4_in := goodIn_r _ [15] (by decide +kernel) (by decide +kernel)
set_option maxRecDepth 20000 in
theorem gX4_worst_X4_in : GoodIn wsX4_worst (va_wsS RX4 43 yX4_in wsX4_in) := goodIn_app (goodIn_of _ (by decide +kernel)) ggX4_worst_X4_in
set_option maxRecDepth 20000 in
theorem ggX4_worst_X4_worstOf : GoodIn wsX4_worst wsX4_worstOf := goodIn_r _ [19, 20, 21, 22, 23, 6, 24, 12, 25, 26, 27, 28, 29, 30, 31, 32, 33, 34, 35, 36, 37, 38, 39, 40, 41, 42, 43, 44, 45, 46] (by decide +kernel) (by decide +kernel)
set_option maxRecDepth 20000 in
theorem gX4_worst_X4_worstOf : GoodIn wsX4_worst (wsV RX4 127 RX4 yX4_worstOf wsX4_worstOf) := goodIn_app (goodIn_of _ (by decide +kernel)) ggX4_worst_X4_worstOf
theorem dX4_worst_0 : decode cX4_worst 0 = .ok (.aload_n 0, 1) := by decide +kernel
theorem dX4_worst_1 : decode cX4_worst 1 = .ok (.iload_n 1, 1) := by decide +kernel
theorem dX4_worst_2 : decode cX4_worst 2 = .ok (.iload_n 2, 1) := by decide +kernel
theorem dX4_worst_3 : decode cX4_worst 3 = .ok (.invokevirtual 120, 3) := by decide +kernel
theorem dX4_worst_6 : decode cX4_worst 6 = .ok (.ifCond .ne 6, 3) := by decide +kernel
theorem dX4_worst_9 : decode cX4_worst 9 = .ok (.ldc 96, 2) := by decide +kernel
theorem dX4_worst_11 : decode cX4_worst 11 = .ok (.ireturn, 1) := by decide +kernel
theorem dX4_worst_12 : decode cX4_worst 12 = .ok (.iload_n 3, 1) := by decide +kernel
theorem dX4_worst_13 : decode cX4_worst 13 = .ok (.iconst 0, 1) := by decide +kernel
theorem dX4_worst_14 : decode cX4_worst 14 = .ok (.sipush 200, 3) := by decide +kernel
theorem dX4_worst_17 : decode cX4_worst 17 = .ok (.invokestatic 43, 3) := by decide +kernel
theorem dX4_worst_20 : decode cX4_worst 20 = .ok (.ifCond .eq 13, 3) := by decide +kernel
theorem dX4_worst_23 : decode cX4_worst 23 = .ok (.aload_n 0, 1) := by decide +kernel
theorem dX4_worst_24 : decode cX4_worst 24 = .ok (.iload_n 1, 1) := by decide +kernel
theorem dX4_worst_25 : decode cX4_worst 25 = .ok (.iload_n 2, 1) := by decide +kernel
theorem dX4_worst_26 : decode cX4_worst 26 = .ok (.iload_n 3, 1) := by decide +kernel
theorem dX4_worst_27 : decode cX4_worst 27 = .ok (.invokevirtual 127, 3) := by decide +kernel
theorem dX4_worst_30 : decode cX4_worst 30 = .ok (.goto 5, 3) := by decide +kernel
theorem dX4_worst_33 : decode cX4_worst 33 = .ok (.ldc 83, 2) := by decide +kernel
theorem dX4_worst_35 : decode cX4_worst 35 = .ok (.ireturn, 1) := by decide +kernel
set_option maxRecDepth 20000 in
theorem ggX4_bound_X4_areTwo : GoodIn wsX4_bound wsX4_areTwo := goodIn_r _ [7, 8, 9, 10, 6, 11, 12, 13, 14, 15, 37, 38, 39, 40, 41, 42, 43, 44, 45, 46] (by decide +kernel) (by decide +kernel)
set_option maxRecDepth 20000 in
theorem gX4_bound_X4_areTwo : GoodIn wsX4_bound (wsV RX4 120 RX4 yX4_areTwo wsX4_areTwo) := goodIn_app (goodIn_of _ (by decide +kernel)) ggX4_bound_X4_areTwo
set_option maxRecDepth 20000 in
theorem ggX4_bound_X4_in : GoodIn wsX4_bound wsX4_in := goodIn_r _ [15] (by decide +kernel) (by decide +kernel)
set_option maxRecDepth 20000 in
theorem gX4_bound_X4_in : GoodIn wsX4_bound (va_wsS RX4 43 yX4_in wsX4_in) := goodIn_app (goodIn_of _ (by decide +kernel)) ggX4_bound_X4_in
set_option maxRecDepth 20000 in
theorem ggX4_bound_X4_worstOf : GoodIn wsX4_bound wsX4_worstOf := goodIn_r _ [19, 20, 21, 22, 23, 6, 24, 12, 25, 26, 27, 28, 29, 30, 31, 32, 33, 34, 35, 36, 37, 38, 39, 40, 41, 42, 43, 44, 45, 46] (by decide +kernel) (by decide +kernel)
set_option maxRecDepth 20000 in
theorem gX4_bound_X4_worstOf : GoodIn wsX4_bound (wsV RX4 127 RX4 yX4_worstOf wsX4_worstOf) := goodIn_app (goodIn_of _ (by decide +kernel)) ggX4_bound_X4_worstOf
theorem dX4_bound_0 : decode cX4_bound 0 = .ok (.aload_n 0, 1) := by decide +kernel
theorem dX4_bound_1 : decode cX4_bound 1 = .ok (.iload_n 1, 1) := by decide +kernel
theorem dX4_bound_2 : decode cX4_bound 2 = .ok (.iload_n 2, 1) := by decide +kernel
theorem dX4_bound_3 : decode cX4_bound 3 = .ok (.invokevirtual 120, 3) := by decide +kernel
theorem dX4_bound_6 : decode cX4_bound 6 = .ok (.ifCond .ne 6, 3) := by decide +kernel
theorem dX4_bound_9 : decode cX4_bound 9 = .ok (.ldc 96, 2) := by decide +kernel
theorem dX4_bound_11 : decode cX4_bound 11 = .ok (.ireturn, 1) := by decide +kernel
theorem dX4_bound_12 : decode cX4_bound 12 = .ok (.iload_n 3, 1) := by decide +kernel
theorem dX4_bound_13 : decode cX4_bound 13 = .ok (.iconst 0, 1) := by decide +kernel
theorem dX4_bound_14 : decode cX4_bound 14 = .ok (.sipush 200, 3) := by decide +kernel
theorem dX4_bound_17 : decode cX4_bound 17 = .ok (.invokestatic 43, 3) := by decide +kernel
theorem dX4_bound_20 : decode cX4_bound 20 = .ok (.ifCond .eq 15, 3) := by decide +kernel
theorem dX4_bound_23 : decode cX4_bound 23 = .ok (.iload 4, 2) := by decide +kernel
theorem dX4_bound_25 : decode cX4_bound 25 = .ok (.iconst 0, 1) := by decide +kernel
theorem dX4_bound_26 : decode cX4_bound 26 = .ok (.sipush 1500, 3) := by decide +kernel
theorem dX4_bound_29 : decode cX4_bound 29 = .ok (.invokestatic 43, 3) := by decide +kernel
theorem dX4_bound_32 : decode cX4_bound 32 = .ok (.ifCond .ne 6, 3) := by decide +kernel
theorem dX4_bound_35 : decode cX4_bound 35 = .ok (.ldc 83, 2) := by decide +kernel
theorem dX4_bound_37 : decode cX4_bound 37 = .ok (.ireturn, 1) := by decide +kernel
theorem dX4_bound_38 : decode cX4_bound 38 = .ok (.aload_n 0, 1) := by decide +kernel
theorem dX4_bound_39 : decode cX4_bound 39 = .ok (.iload_n 1, 1) := by decide +kernel
theorem dX4_bound_40 : decode cX4_bound 40 = .ok (.iload_n 2, 1) := by decide +kernel
theorem dX4_bound_41 : decode cX4_bound 41 = .ok (.iload_n 3, 1) := by decide +kernel
theorem dX4_bound_42 : decode cX4_bound 42 = .ok (.invokevirtual 127, 3) := by decide +kernel
theorem dX4_bound_45 : decode cX4_bound 45 = .ok (.iload 4, 2) := by decide +kernel
theorem dX4_bound_47 : decode cX4_bound 47 = .ok (.if_icmp .gt 7, 3) := by decide +kernel
theorem dX4_bound_50 : decode cX4_bound 50 = .ok (.iconst 1, 1) := by decide +kernel
theorem dX4_bound_51 : decode cX4_bound 51 = .ok (.goto 4, 3) := by decide +kernel
theorem dX4_bound_54 : decode cX4_bound 54 = .ok (.iconst 0, 1) := by decide +kernel
theorem dX4_bound_55 : decode cX4_bound 55 = .ok (.ireturn, 1) := by decide +kernel
set_option maxRecDepth 20000 in
theorem ggX4_together_X4_areTwo : GoodIn wsX4_together wsX4_areTwo := goodIn_r _ [7, 8, 9, 10, 6, 11, 12, 13, 14, 15, 48, 49, 50, 51, 52, 53, 54, 55, 56, 57] (by decide +kernel) (by decide +kernel)
set_option maxRecDepth 20000 in
theorem gX4_together_X4_areTwo : GoodIn wsX4_together (wsV RX4 120 RX4 yX4_areTwo wsX4_areTwo) := goodIn_app (goodIn_of _ (by decide +kernel)) ggX4_together_X4_areTwo
set_option maxRecDepth 20000 in
theorem ggX4_together_X4_in : GoodIn wsX4_together wsX4_in := goodIn_r _ [15] (by decide +kernel) (by decide +kernel)
set_option maxRecDepth 20000 in
theorem gX4_together_X4_in : GoodIn wsX4_together (va_wsS RX4 43 yX4_in wsX4_in) := goodIn_app (goodIn_of _ (by decide +kernel)) ggX4_together_X4_in
set_option maxRecDepth 20000 in
theorem ggX4_together_X4_isMet : GoodIn wsX4_together wsX4_isMet := goodIn_r _ [19, 20, 21, 22, 6, 23, 24, 25, 26, 27, 28, 29, 30, 31, 12, 32, 33, 34, 35, 36, 37, 38, 39, 40, 41, 42, 43, 44, 45, 46, 47, 13, 14, 15, 48, 49, 50, 51, 52, 53, 54, 55, 56, 57] (by decide +kernel) (by decide +kernel)
set_option maxRecDepth 20000 in
theorem gX4_together_X4_isMet : GoodIn wsX4_together (wsV RX4 123 RX4 yX4_isMet wsX4_isMet) := goodIn_app (goodIn_of _ (by decide +kernel)) ggX4_together_X4_isMet
theorem dX4_together_0 : decode cX4_together 0 = .ok (.aload_n 0, 1) := by decide +kernel
theorem dX4_together_1 : decode cX4_together 1 = .ok (.iload_n 1, 1) := by decide +kernel
theorem dX4_together_2 : decode cX4_together 2 = .ok (.iload_n 2, 1) := by decide +kernel
theorem dX4_together_3 : decode cX4_together 3 = .ok (.invokevirtual 120, 3) := by decide +kernel
theorem dX4_together_6 : decode cX4_together 6 = .ok (.ifCond .ne 6, 3) := by decide +kernel
theorem dX4_together_9 : decode cX4_together 9 = .ok (.ldc 96, 2) := by decide +kernel
theorem dX4_together_11 : decode cX4_together 11 = .ok (.ireturn, 1) := by decide +kernel
theorem dX4_together_12 : decode cX4_together 12 = .ok (.iload_n 3, 1) := by decide +kernel
theorem dX4_together_13 : decode cX4_together 13 = .ok (.iconst 0, 1) := by decide +kernel
theorem dX4_together_14 : decode cX4_together 14 = .ok (.sipush 1500, 3) := by decide +kernel
theorem dX4_together_17 : decode cX4_together 17 = .ok (.invokestatic 43, 3) := by decide +kernel
theorem dX4_together_20 : decode cX4_together 20 = .ok (.ifCond .ne 6, 3) := by decide +kernel
theorem dX4_together_23 : decode cX4_together 23 = .ok (.ldc 83, 2) := by decide +kernel
theorem dX4_together_25 : decode cX4_together 25 = .ok (.ireturn, 1) := by decide +kernel
theorem dX4_together_26 : decode cX4_together 26 = .ok (.iconst 0, 1) := by decide +kernel
theorem dX4_together_27 : decode cX4_together 27 = .ok (.istore 4, 2) := by decide +kernel
theorem dX4_together_29 : decode cX4_together 29 = .ok (.iconst 0, 1) := by decide +kernel
theorem dX4_together_30 : decode cX4_together 30 = .ok (.istore 5, 2) := by decide +kernel
theorem dX4_together_32 : decode cX4_together 32 = .ok (.iload 5, 2) := by decide +kernel
theorem dX4_together_34 : decode cX4_together 34 = .ok (.iload_n 3, 1) := by decide +kernel
theorem dX4_together_35 : decode cX4_together 35 = .ok (.if_icmp .ge 30, 3) := by decide +kernel
theorem dX4_together_38 : decode cX4_together 38 = .ok (.iload 4, 2) := by decide +kernel
theorem dX4_together_40 : decode cX4_together 40 = .ok (.aload_n 0, 1) := by decide +kernel
theorem dX4_together_41 : decode cX4_together 41 = .ok (.iload_n 1, 1) := by decide +kernel
theorem dX4_together_42 : decode cX4_together 42 = .ok (.iload_n 2, 1) := by decide +kernel
theorem dX4_together_43 : decode cX4_together 43 = .ok (.iload 5, 2) := by decide +kernel
theorem dX4_together_45 : decode cX4_together 45 = .ok (.invokevirtual 123, 3) := by decide +kernel
theorem dX4_together_48 : decode cX4_together 48 = .ok (.ifCond .eq 7, 3) := by decide +kernel
theorem dX4_together_51 : decode cX4_together 51 = .ok (.iconst 1, 1) := by decide +kernel
theorem dX4_together_52 : decode cX4_together 52 = .ok (.goto 4, 3) := by decide +kernel
theorem dX4_together_55 : decode cX4_together 55 = .ok (.iconst 0, 1) := by decide +kernel
theorem dX4_together_56 : decode cX4_together 56 = .ok (.iadd, 1) := by decide +kernel
theorem dX4_together_57 : decode cX4_together 57 = .ok (.istore 4, 2) := by decide +kernel
theorem dX4_together_59 : decode cX4_together 59 = .ok (.iinc 5 1, 3) := by decide +kernel
theorem dX4_together_62 : decode cX4_together 62 = .ok (.goto (-30), 3) := by decide +kernel
theorem dX4_together_65 : decode cX4_together 65 = .ok (.iload 4, 2) := by decide +kernel
theorem dX4_together_67 : decode cX4_together 67 = .ok (.ireturn, 1) := by decide +kernel
set_option maxRecDepth 20000 in
theorem ggX4_even_X4_isUser : GoodIn wsX4_even wsX4_isUser := goodIn_r _ [9, 4, 10, 11, 8, 12, 29, 30, 31, 32, 33, 34, 35, 36, 37, 38] (by decide +kernel) (by decide +kernel)
set_option maxRecDepth 20000 in
theorem gX4_even_X4_isUser : GoodIn wsX4_even (wsV RX4 47 RX4 yX4_isUser wsX4_isUser) := goodIn_app (goodIn_of _ (by decide +kernel)) ggX4_even_X4_isUser
set_option maxRecDepth 20000 in
theorem ggX4_even_X4_in : GoodIn wsX4_even wsX4_in := goodIn_r _ [12] (by decide +kernel) (by decide +kernel)
set_option maxRecDepth 20000 in
theorem gX4_even_X4_in : GoodIn wsX4_even (va_wsS RX4 43 yX4_in wsX4_in) := goodIn_app (goodIn_of _ (by decide +kernel)) ggX4_even_X4_in
set_option maxRecDepth 20000 in
theorem ggX4_even_X4_of : GoodIn wsX4_even wsX4_of := goodIn_r _ [16, 4, 29, 30, 31, 32, 33, 34, 35, 36, 37, 38] (by decide +kernel) (by decide +kernel)
set_option maxRecDepth 20000 in
theorem gX4_even_X4_of : GoodIn wsX4_even (wsV RX4 50 RX4 yX4_of wsX4_of) := goodIn_app (goodIn_of _ (by decide +kernel)) ggX4_even_X4_of
set_option maxRecDepth 20000 in
theorem ggX4_even_X4_lands : GoodIn wsX4_even wsX4_lands := goodIn_r _ [20, 13, 14, 15, 8, 16, 4, 21, 22, 23, 24, 25, 26, 27, 28, 29, 30, 31, 32, 33, 34, 35, 36, 37, 38] (by decide +kernel) (by decide +kernel)
set_option maxRecDepth 20000 in
theorem gX4_even_X4_lands : GoodIn wsX4_even (wsV RX4 61 RX4 yX4_lands wsX4_lands) := goodIn_app (goodIn_of _ (by decide +kernel)) ggX4_even_X4_lands
theorem dX4_even_0 : decode cX4_even 0 = .ok (.aload_n 0, 1) := by decide +kernel
theorem dX4_even_1 : decode cX4_even 1 = .ok (.iload_n 1, 1) := by decide +kernel
theorem dX4_even_2 : decode cX4_even 2 = .ok (.invokevirtual 47, 3) := by decide +kernel
theorem dX4_even_5 : decode cX4_even 5 = .ok (.ifCond .ne 6, 3) := by decide +kernel
theorem dX4_even_8 : decode cX4_even 8 = .ok (.ldc 96, 2) := by decide +kernel
theorem dX4_even_10 : decode cX4_even 10 = .ok (.ireturn, 1) := by decide +kernel
theorem dX4_even_11 : decode cX4_even 11 = .ok (.iload_n 2, 1) := by decide +kernel
theorem dX4_even_12 : decode cX4_even 12 = .ok (.iconst 1, 1) := by decide +kernel
theorem dX4_even_13 : decode cX4_even 13 = .ok (.sipush 1500, 3) := by decide +kernel
theorem dX4_even_16 : decode cX4_even 16 = .ok (.invokestatic 43, 3) := by decide +kernel
theorem dX4_even_19 : decode cX4_even 19 = .ok (.ifCond .ne 6, 3) := by decide +kernel
theorem dX4_even_22 : decode cX4_even 22 = .ok (.ldc 83, 2) := by decide +kernel
theorem dX4_even_24 : decode cX4_even 24 = .ok (.ireturn, 1) := by decide +kernel
theorem dX4_even_25 : decode cX4_even 25 = .ok (.aload_n 0, 1) := by decide +kernel
theorem dX4_even_26 : decode cX4_even 26 = .ok (.iload_n 1, 1) := by decide +kernel
theorem dX4_even_27 : decode cX4_even 27 = .ok (.iconst 4, 1) := by decide +kernel
theorem dX4_even_28 : decode cX4_even 28 = .ok (.invokevirtual 50, 3) := by decide +kernel
theorem dX4_even_31 : decode cX4_even 31 = .ok (.istore_n 3, 1) := by decide +kernel
theorem dX4_even_32 : decode cX4_even 32 = .ok (.iconst 0, 1) := by decide +kernel
theorem dX4_even_33 : decode cX4_even 33 = .ok (.istore 4, 2) := by decide +kernel
theorem dX4_even_35 : decode cX4_even 35 = .ok (.iload 4, 2) := by decide +kernel
theorem dX4_even_37 : decode cX4_even 37 = .ok (.bipush 10, 2) := by decide +kernel
theorem dX4_even_39 : decode cX4_even 39 = .ok (.if_icmp .ge 17, 3) := by decide +kernel
theorem dX4_even_42 : decode cX4_even 42 = .ok (.aload_n 0, 1) := by decide +kernel
theorem dX4_even_43 : decode cX4_even 43 = .ok (.getfield 26, 3) := by decide +kernel
theorem dX4_even_46 : decode cX4_even 46 = .ok (.iload 4, 2) := by decide +kernel
theorem dX4_even_48 : decode cX4_even 48 = .ok (.iconst 0, 1) := by decide +kernel
theorem dX4_even_49 : decode cX4_even 49 = .ok (.iastore, 1) := by decide +kernel
theorem dX4_even_50 : decode cX4_even 50 = .ok (.iinc 4 1, 3) := by decide +kernel
theorem dX4_even_53 : decode cX4_even 53 = .ok (.goto (-18), 3) := by decide +kernel
theorem dX4_even_56 : decode cX4_even 56 = .ok (.iconst 0, 1) := by decide +kernel
theorem dX4_even_57 : decode cX4_even 57 = .ok (.istore 4, 2) := by decide +kernel
theorem dX4_even_59 : decode cX4_even 59 = .ok (.iload 4, 2) := by decide +kernel
theorem dX4_even_61 : decode cX4_even 61 = .ok (.iload_n 2, 1) := by decide +kernel
theorem dX4_even_62 : decode cX4_even 62 = .ok (.if_icmp .ge 29, 3) := by decide +kernel
theorem dX4_even_65 : decode cX4_even 65 = .ok (.iload_n 3, 1) := by decide +kernel
theorem dX4_even_66 : decode cX4_even 66 = .ok (.ifCond .eq 25, 3) := by decide +kernel
theorem dX4_even_69 : decode cX4_even 69 = .ok (.aload_n 0, 1) := by decide +kernel
theorem dX4_even_70 : decode cX4_even 70 = .ok (.getfield 26, 3) := by decide +kernel
theorem dX4_even_73 : decode cX4_even 73 = .ok (.aload_n 0, 1) := by decide +kernel
theorem dX4_even_74 : decode cX4_even 74 = .ok (.iload_n 1, 1) := by decide +kernel
theorem dX4_even_75 : decode cX4_even 75 = .ok (.iload 4, 2) := by decide +kernel
theorem dX4_even_77 : decode cX4_even 77 = .ok (.invokevirtual 61, 3) := by decide +kernel
theorem dX4_even_80 : decode cX4_even 80 = .ok (.dup2, 1) := by decide +kernel
theorem dX4_even_81 : decode cX4_even 81 = .ok (.iaload, 1) := by decide +kernel
theorem dX4_even_82 : decode cX4_even 82 = .ok (.iconst 1, 1) := by decide +kernel
theorem dX4_even_83 : decode cX4_even 83 = .ok (.iadd, 1) := by decide +kernel
theorem dX4_even_84 : decode cX4_even 84 = .ok (.iastore, 1) := by decide +kernel
theorem dX4_even_85 : decode cX4_even 85 = .ok (.iinc 4 1, 3) := by decide +kernel
theorem dX4_even_88 : decode cX4_even 88 = .ok (.goto (-29), 3) := by decide +kernel
theorem dX4_even_91 : decode cX4_even 91 = .ok (.iconst 0, 1) := by decide +kernel
theorem dX4_even_92 : decode cX4_even 92 = .ok (.istore 4, 2) := by decide +kernel
theorem dX4_even_94 : decode cX4_even 94 = .ok (.iload_n 2, 1) := by decide +kernel
theorem dX4_even_95 : decode cX4_even 95 = .ok (.istore 5, 2) := by decide +kernel
theorem dX4_even_97 : decode cX4_even 97 = .ok (.iconst 0, 1) := by decide +kernel
theorem dX4_even_98 : decode cX4_even 98 = .ok (.istore 6, 2) := by decide +kernel
theorem dX4_even_100 : decode cX4_even 100 = .ok (.iload 6, 2) := by decide +kernel
theorem dX4_even_102 : decode cX4_even 102 = .ok (.aload_n 0, 1) := by decide +kernel
theorem dX4_even_103 : decode cX4_even 103 = .ok (.getfield 7, 3) := by decide +kernel
theorem dX4_even_106 : decode cX4_even 106 = .ok (.iconst 0, 1) := by decide +kernel
theorem dX4_even_107 : decode cX4_even 107 = .ok (.iaload, 1) := by decide +kernel
theorem dX4_even_108 : decode cX4_even 108 = .ok (.if_icmp .ge 88, 3) := by decide +kernel
theorem dX4_even_111 : decode cX4_even 111 = .ok (.iload_n 3, 1) := by decide +kernel
theorem dX4_even_112 : decode cX4_even 112 = .ok (.iload 6, 2) := by decide +kernel
theorem dX4_even_114 : decode cX4_even 114 = .ok (.ishr, 1) := by decide +kernel
theorem dX4_even_115 : decode cX4_even 115 = .ok (.iconst 1, 1) := by decide +kernel
theorem dX4_even_116 : decode cX4_even 116 = .ok (.iand, 1) := by decide +kernel
theorem dX4_even_117 : decode cX4_even 117 = .ok (.iconst 1, 1) := by decide +kernel
theorem dX4_even_118 : decode cX4_even 118 = .ok (.if_icmp .ne 7, 3) := by decide +kernel
theorem dX4_even_121 : decode cX4_even 121 = .ok (.iconst 1, 1) := by decide +kernel
theorem dX4_even_122 : decode cX4_even 122 = .ok (.goto 4, 3) := by decide +kernel
theorem dX4_even_125 : decode cX4_even 125 = .ok (.iconst 0, 1) := by decide +kernel
theorem dX4_even_126 : decode cX4_even 126 = .ok (.istore 7, 2) := by decide +kernel
theorem dX4_even_128 : decode cX4_even 128 = .ok (.iload 7, 2) := by decide +kernel
theorem dX4_even_130 : decode cX4_even 130 = .ok (.ifCond .eq 25, 3) := by decide +kernel
theorem dX4_even_133 : decode cX4_even 133 = .ok (.aload_n 0, 1) := by decide +kernel
theorem dX4_even_134 : decode cX4_even 134 = .ok (.getfield 26, 3) := by decide +kernel
theorem dX4_even_137 : decode cX4_even 137 = .ok (.iload 6, 2) := by decide +kernel
theorem dX4_even_139 : decode cX4_even 139 = .ok (.iaload, 1) := by decide +kernel
theorem dX4_even_140 : decode cX4_even 140 = .ok (.iload 4, 2) := by decide +kernel
theorem dX4_even_142 : decode cX4_even 142 = .ok (.if_icmp .le 13, 3) := by decide +kernel
theorem dX4_even_145 : decode cX4_even 145 = .ok (.aload_n 0, 1) := by decide +kernel
theorem dX4_even_146 : decode cX4_even 146 = .ok (.getfield 26, 3) := by decide +kernel
theorem dX4_even_149 : decode cX4_even 149 = .ok (.iload 6, 2) := by decide +kernel
theorem dX4_even_151 : decode cX4_even 151 = .ok (.iaload, 1) := by decide +kernel
theorem dX4_even_152 : decode cX4_even 152 = .ok (.goto 5, 3) := by decide +kernel
theorem dX4_even_155 : decode cX4_even 155 = .ok (.iload 4, 2) := by decide +kernel
theorem dX4_even_157 : decode cX4_even 157 = .ok (.istore 4, 2) := by decide +kernel
theorem dX4_even_159 : decode cX4_even 159 = .ok (.iload 7, 2) := by decide +kernel
theorem dX4_even_161 : decode cX4_even 161 = .ok (.ifCond .eq 25, 3) := by decide +kernel
theorem dX4_even_164 : decode cX4_even 164 = .ok (.aload_n 0, 1) := by decide +kernel
theorem dX4_even_165 : decode cX4_even 165 = .ok (.getfield 26, 3) := by decide +kernel
theorem dX4_even_168 : decode cX4_even 168 = .ok (.iload 6, 2) := by decide +kernel
theorem dX4_even_170 : decode cX4_even 170 = .ok (.iaload, 1) := by decide +kernel
theorem dX4_even_171 : decode cX4_even 171 = .ok (.iload 5, 2) := by decide +kernel
theorem dX4_even_173 : decode cX4_even 173 = .ok (.if_icmp .ge 13, 3) := by decide +kernel
theorem dX4_even_176 : decode cX4_even 176 = .ok (.aload_n 0, 1) := by decide +kernel
theorem dX4_even_177 : decode cX4_even 177 = .ok (.getfield 26, 3) := by decide +kernel
theorem dX4_even_180 : decode cX4_even 180 = .ok (.iload 6, 2) := by decide +kernel
theorem dX4_even_182 : decode cX4_even 182 = .ok (.iaload, 1) := by decide +kernel
theorem dX4_even_183 : decode cX4_even 183 = .ok (.goto 5, 3) := by decide +kernel
theorem dX4_even_186 : decode cX4_even 186 = .ok (.iload 5, 2) := by decide +kernel
theorem dX4_even_188 : decode cX4_even 188 = .ok (.istore 5, 2) := by decide +kernel
theorem dX4_even_190 : decode cX4_even 190 = .ok (.iinc 6 1, 3) := by decide +kernel
theorem dX4_even_193 : decode cX4_even 193 = .ok (.goto (-93), 3) := by decide +kernel
theorem dX4_even_196 : decode cX4_even 196 = .ok (.iload_n 3, 1) := by decide +kernel
theorem dX4_even_197 : decode cX4_even 197 = .ok (.ifCond .ne 7, 3) := by decide +kernel
theorem dX4_even_200 : decode cX4_even 200 = .ok (.iconst 0, 1) := by decide +kernel
theorem dX4_even_201 : decode cX4_even 201 = .ok (.goto 8, 3) := by decide +kernel
theorem dX4_even_204 : decode cX4_even 204 = .ok (.iload 4, 2) := by decide +kernel
theorem dX4_even_206 : decode cX4_even 206 = .ok (.iload 5, 2) := by decide +kernel
theorem dX4_even_208 : decode cX4_even 208 = .ok (.isub, 1) := by decide +kernel
theorem dX4_even_209 : decode cX4_even 209 = .ok (.ireturn, 1) := by decide +kernel
set_option maxRecDepth 20000 in
theorem ggX4_slot_X4_isMet : GoodIn wsX4_slot wsX4_isMet := goodIn_r _ [8, 9, 10, 11, 7, 12, 13, 14, 15, 16, 17, 18, 19, 20, 1, 21, 22, 23, 24, 25, 26, 27, 28, 29, 30, 31, 32, 33, 34, 35, 36, 37, 38, 39, 44, 45, 46, 47, 48, 49, 50, 51, 52, 53] (by decide +kernel) (by decide +kernel)
set_option maxRecDepth 20000 in
theorem gX4_slot_X4_isMet : GoodIn wsX4_slot (wsV RX4 123 RX4 yX4_isMet wsX4_isMet) := goodIn_app (goodIn_of _ (by decide +kernel)) ggX4_slot_X4_isMet
set_option maxRecDepth 20000 in
theorem ggX4_slot_X4_join : GoodIn wsX4_slot wsX4_join := goodIn_r _ [43, 1, 2, 44, 45, 46, 47, 48, 49, 50, 51, 52, 53] (by decide +kernel) (by decide +kernel)
set_option maxRecDepth 20000 in
theorem gX4_slot_X4_join : GoodIn wsX4_slot (wsV RX4 130 RX4 yX4_join wsX4_join) := goodIn_app (goodIn_of _ (by decide +kernel)) ggX4_slot_X4_join
theorem dX4_slot_0 : decode cX4_slot 0 = .ok (.iconst 0, 1) := by decide +kernel
theorem dX4_slot_1 : decode cX4_slot 1 = .ok (.istore_n 1, 1) := by decide +kernel
theorem dX4_slot_2 : decode cX4_slot 2 = .ok (.iload_n 1, 1) := by decide +kernel
theorem dX4_slot_3 : decode cX4_slot 3 = .ok (.aload_n 0, 1) := by decide +kernel
theorem dX4_slot_4 : decode cX4_slot 4 = .ok (.getfield 7, 3) := by decide +kernel
theorem dX4_slot_7 : decode cX4_slot 7 = .ok (.iconst 1, 1) := by decide +kernel
theorem dX4_slot_8 : decode cX4_slot 8 = .ok (.iaload, 1) := by decide +kernel
theorem dX4_slot_9 : decode cX4_slot 9 = .ok (.if_icmp .ge 68, 3) := by decide +kernel
theorem dX4_slot_12 : decode cX4_slot 12 = .ok (.iload_n 1, 1) := by decide +kernel
theorem dX4_slot_13 : decode cX4_slot 13 = .ok (.iconst 1, 1) := by decide +kernel
theorem dX4_slot_14 : decode cX4_slot 14 = .ok (.iadd, 1) := by decide +kernel
theorem dX4_slot_15 : decode cX4_slot 15 = .ok (.istore_n 2, 1) := by decide +kernel
theorem dX4_slot_16 : decode cX4_slot 16 = .ok (.iload_n 2, 1) := by decide +kernel
theorem dX4_slot_17 : decode cX4_slot 17 = .ok (.aload_n 0, 1) := by decide +kernel
theorem dX4_slot_18 : decode cX4_slot 18 = .ok (.getfield 7, 3) := by decide +kernel
theorem dX4_slot_21 : decode cX4_slot 21 = .ok (.iconst 1, 1) := by decide +kernel
theorem dX4_slot_22 : decode cX4_slot 22 = .ok (.iaload, 1) := by decide +kernel
theorem dX4_slot_23 : decode cX4_slot 23 = .ok (.if_icmp .ge 48, 3) := by decide +kernel
theorem dX4_slot_26 : decode cX4_slot 26 = .ok (.aload_n 0, 1) := by decide +kernel
theorem dX4_slot_27 : decode cX4_slot 27 = .ok (.getfield 23, 3) := by decide +kernel
theorem dX4_slot_30 : decode cX4_slot 30 = .ok (.iload_n 1, 1) := by decide +kernel
theorem dX4_slot_31 : decode cX4_slot 31 = .ok (.iaload, 1) := by decide +kernel
theorem dX4_slot_32 : decode cX4_slot 32 = .ok (.iload_n 1, 1) := by decide +kernel
theorem dX4_slot_33 : decode cX4_slot 33 = .ok (.if_icmp .ne 38, 3) := by decide +kernel
theorem dX4_slot_36 : decode cX4_slot 36 = .ok (.aload_n 0, 1) := by decide +kernel
theorem dX4_slot_37 : decode cX4_slot 37 = .ok (.getfield 23, 3) := by decide +kernel
theorem dX4_slot_40 : decode cX4_slot 40 = .ok (.iload_n 2, 1) := by decide +kernel
theorem dX4_slot_41 : decode cX4_slot 41 = .ok (.iaload, 1) := by decide +kernel
theorem dX4_slot_42 : decode cX4_slot 42 = .ok (.iload_n 2, 1) := by decide +kernel
theorem dX4_slot_43 : decode cX4_slot 43 = .ok (.if_icmp .ne 22, 3) := by decide +kernel
theorem dX4_slot_46 : decode cX4_slot 46 = .ok (.aload_n 0, 1) := by decide +kernel
theorem dX4_slot_47 : decode cX4_slot 47 = .ok (.iload_n 1, 1) := by decide +kernel
theorem dX4_slot_48 : decode cX4_slot 48 = .ok (.iload_n 2, 1) := by decide +kernel
theorem dX4_slot_49 : decode cX4_slot 49 = .ok (.aload_n 0, 1) := by decide +kernel
theorem dX4_slot_50 : decode cX4_slot 50 = .ok (.getfield 73, 3) := by decide +kernel
theorem dX4_slot_53 : decode cX4_slot 53 = .ok (.invokevirtual 123, 3) := by decide +kernel
theorem dX4_slot_56 : decode cX4_slot 56 = .ok (.ifCond .eq 9, 3) := by decide +kernel
theorem dX4_slot_59 : decode cX4_slot 59 = .ok (.aload_n 0, 1) := by decide +kernel
theorem dX4_slot_60 : decode cX4_slot 60 = .ok (.iload_n 1, 1) := by decide +kernel
theorem dX4_slot_61 : decode cX4_slot 61 = .ok (.iload_n 2, 1) := by decide +kernel
theorem dX4_slot_62 : decode cX4_slot 62 = .ok (.invokevirtual 130, 3) := by decide +kernel
theorem dX4_slot_65 : decode cX4_slot 65 = .ok (.iinc 2 1, 3) := by decide +kernel
theorem dX4_slot_68 : decode cX4_slot 68 = .ok (.goto (-52), 3) := by decide +kernel
theorem dX4_slot_71 : decode cX4_slot 71 = .ok (.iinc 1 1, 3) := by decide +kernel
theorem dX4_slot_74 : decode cX4_slot 74 = .ok (.goto (-72), 3) := by decide +kernel
theorem dX4_slot_77 : decode cX4_slot 77 = .ok (.aload_n 0, 1) := by decide +kernel
theorem dX4_slot_78 : decode cX4_slot 78 = .ok (.dup, 1) := by decide +kernel
theorem dX4_slot_79 : decode cX4_slot 79 = .ok (.getfield 73, 3) := by decide +kernel
theorem dX4_slot_82 : decode cX4_slot 82 = .ok (.iconst 1, 1) := by decide +kernel
theorem dX4_slot_83 : decode cX4_slot 83 = .ok (.iadd, 1) := by decide +kernel
theorem dX4_slot_84 : decode cX4_slot 84 = .ok (.putfield 73, 3) := by decide +kernel
theorem dX4_slot_87 : decode cX4_slot 87 = .ok (.return_, 1) := by decide +kernel
theorem dX4_join_0 : decode cX4_join 0 = .ok (.iconst 0, 1) := by decide +kernel
theorem dX4_join_1 : decode cX4_join 1 = .ok (.istore_n 3, 1) := by decide +kernel
theorem dX4_join_2 : decode cX4_join 2 = .ok (.iload_n 3, 1) := by decide +kernel
theorem dX4_join_3 : decode cX4_join 3 = .ok (.aload_n 0, 1) := by decide +kernel
theorem dX4_join_4 : decode cX4_join 4 = .ok (.getfield 7, 3) := by decide +kernel
theorem dX4_join_7 : decode cX4_join 7 = .ok (.iconst 1, 1) := by decide +kernel
theorem dX4_join_8 : decode cX4_join 8 = .ok (.iaload, 1) := by decide +kernel
theorem dX4_join_9 : decode cX4_join 9 = .ok (.if_icmp .ge 35, 3) := by decide +kernel
theorem dX4_join_12 : decode cX4_join 12 = .ok (.aload_n 0, 1) := by decide +kernel
theorem dX4_join_13 : decode cX4_join 13 = .ok (.getfield 23, 3) := by decide +kernel
theorem dX4_join_16 : decode cX4_join 16 = .ok (.iload_n 3, 1) := by decide +kernel
theorem dX4_join_17 : decode cX4_join 17 = .ok (.aload_n 0, 1) := by decide +kernel
theorem dX4_join_18 : decode cX4_join 18 = .ok (.getfield 23, 3) := by decide +kernel
theorem dX4_join_21 : decode cX4_join 21 = .ok (.iload_n 3, 1) := by decide +kernel
theorem dX4_join_22 : decode cX4_join 22 = .ok (.iaload, 1) := by decide +kernel
theorem dX4_join_23 : decode cX4_join 23 = .ok (.iload_n 2, 1) := by decide +kernel
theorem dX4_join_24 : decode cX4_join 24 = .ok (.if_icmp .ne 7, 3) := by decide +kernel
theorem dX4_join_27 : decode cX4_join 27 = .ok (.iload_n 1, 1) := by decide +kernel
theorem dX4_join_28 : decode cX4_join 28 = .ok (.goto 9, 3) := by decide +kernel
theorem dX4_join_31 : decode cX4_join 31 = .ok (.aload_n 0, 1) := by decide +kernel
theorem dX4_join_32 : decode cX4_join 32 = .ok (.getfield 23, 3) := by decide +kernel
theorem dX4_join_35 : decode cX4_join 35 = .ok (.iload_n 3, 1) := by decide +kernel
theorem dX4_join_36 : decode cX4_join 36 = .ok (.iaload, 1) := by decide +kernel
theorem dX4_join_37 : decode cX4_join 37 = .ok (.iastore, 1) := by decide +kernel
theorem dX4_join_38 : decode cX4_join 38 = .ok (.iinc 3 1, 3) := by decide +kernel
theorem dX4_join_41 : decode cX4_join 41 = .ok (.goto (-39), 3) := by decide +kernel
theorem dX4_join_44 : decode cX4_join 44 = .ok (.return_, 1) := by decide +kernel
set_option maxRecDepth 20000 in
theorem ggX4_run_X4_in : GoodIn wsX4_run wsX4_in := goodIn_r _ [9] (by decide +kernel) (by decide +kernel)
set_option maxRecDepth 20000 in
theorem gX4_run_X4_in : GoodIn wsX4_run (va_wsS RX4 43 yX4_in wsX4_in) := goodIn_app (goodIn_of _ (by decide +kernel)) ggX4_run_X4_in
set_option maxRecDepth 20000 in
theorem ggX4_run_X4_slot : GoodIn wsX4_run wsX4_slot := goodIn_r _ [13, 2, 14, 4, 15, 16, 17, 8, 18, 19, 20, 21, 22, 23, 24, 25, 26, 27, 28, 29, 30, 31, 32, 33, 34, 35, 36, 37, 38, 39, 40, 41, 42, 43, 44, 45, 46, 6, 7, 9, 47, 48, 49, 50, 55, 56, 57, 58, 59, 60, 61, 62, 63, 64] (by decide +kernel) (by decide +kernel)
set_option maxRecDepth 20000 in
theorem gX4_run_X4_slot : GoodIn wsX4_run (wsV RX4 134 RX4 yX4_slot wsX4_slot) := goodIn_app (goodIn_of _ (by decide +kernel)) ggX4_run_X4_slot
set_option maxRecDepth 20000 in
theorem ggX4_run_X4_groups : GoodIn wsX4_run wsX4_groups := goodIn_r _ [54, 2, 14, 55, 56, 57, 58, 59, 60, 61, 62, 63, 64] (by decide +kernel) (by decide +kernel)
set_option maxRecDepth 20000 in
theorem gX4_run_X4_groups : GoodIn wsX4_run (wsV RX4 117 RX4 yX4_groups wsX4_groups) := goodIn_app (goodIn_of _ (by decide +kernel)) ggX4_run_X4_groups
theorem dX4_run_0 : decode cX4_run 0 = .ok (.iload_n 1, 1) := by decide +kernel
theorem dX4_run_1 : decode cX4_run 1 = .ok (.iconst 1, 1) := by decide +kernel
theorem dX4_run_2 : decode cX4_run 2 = .ok (.sipush 200, 3) := by decide +kernel
theorem dX4_run_5 : decode cX4_run 5 = .ok (.invokestatic 43, 3) := by decide +kernel
theorem dX4_run_8 : decode cX4_run 8 = .ok (.ifCond .ne 6, 3) := by decide +kernel
theorem dX4_run_11 : decode cX4_run 11 = .ok (.ldc 83, 2) := by decide +kernel
theorem dX4_run_13 : decode cX4_run 13 = .ok (.ireturn, 1) := by decide +kernel
theorem dX4_run_14 : decode cX4_run 14 = .ok (.aload_n 0, 1) := by decide +kernel
theorem dX4_run_15 : decode cX4_run 15 = .ok (.getfield 7, 3) := by decide +kernel
theorem dX4_run_18 : decode cX4_run 18 = .ok (.iconst 1, 1) := by decide +kernel
theorem dX4_run_19 : decode cX4_run 19 = .ok (.iaload, 1) := by decide +kernel
theorem dX4_run_20 : decode cX4_run 20 = .ok (.ifCond .ne 6, 3) := by decide +kernel
theorem dX4_run_23 : decode cX4_run 23 = .ok (.ldc 110, 2) := by decide +kernel
theorem dX4_run_25 : decode cX4_run 25 = .ok (.ireturn, 1) := by decide +kernel
theorem dX4_run_26 : decode cX4_run 26 = .ok (.aload_n 0, 1) := by decide +kernel
theorem dX4_run_27 : decode cX4_run 27 = .ok (.getfield 73, 3) := by decide +kernel
theorem dX4_run_30 : decode cX4_run 30 = .ok (.sipush 3000, 3) := by decide +kernel
theorem dX4_run_33 : decode cX4_run 33 = .ok (.if_icmp .ne 6, 3) := by decide +kernel
theorem dX4_run_36 : decode cX4_run 36 = .ok (.ldc 88, 2) := by decide +kernel
theorem dX4_run_38 : decode cX4_run 38 = .ok (.ireturn, 1) := by decide +kernel
theorem dX4_run_39 : decode cX4_run 39 = .ok (.iconst 0, 1) := by decide +kernel
theorem dX4_run_40 : decode cX4_run 40 = .ok (.istore_n 2, 1) := by decide +kernel
theorem dX4_run_41 : decode cX4_run 41 = .ok (.iload_n 2, 1) := by decide +kernel
theorem dX4_run_42 : decode cX4_run 42 = .ok (.iload_n 1, 1) := by decide +kernel
theorem dX4_run_43 : decode cX4_run 43 = .ok (.if_icmp .ge 23, 3) := by decide +kernel
theorem dX4_run_46 : decode cX4_run 46 = .ok (.aload_n 0, 1) := by decide +kernel
theorem dX4_run_47 : decode cX4_run 47 = .ok (.getfield 73, 3) := by decide +kernel
theorem dX4_run_50 : decode cX4_run 50 = .ok (.sipush 3000, 3) := by decide +kernel
theorem dX4_run_53 : decode cX4_run 53 = .ok (.if_icmp .ge 13, 3) := by decide +kernel
theorem dX4_run_56 : decode cX4_run 56 = .ok (.aload_n 0, 1) := by decide +kernel
theorem dX4_run_57 : decode cX4_run 57 = .ok (.invokevirtual 134, 3) := by decide +kernel
theorem dX4_run_60 : decode cX4_run 60 = .ok (.iinc 2 1, 3) := by decide +kernel
theorem dX4_run_63 : decode cX4_run 63 = .ok (.goto (-22), 3) := by decide +kernel
theorem dX4_run_66 : decode cX4_run 66 = .ok (.aload_n 0, 1) := by decide +kernel
theorem dX4_run_67 : decode cX4_run 67 = .ok (.invokevirtual 117, 3) := by decide +kernel
theorem dX4_run_70 : decode cX4_run 70 = .ok (.ireturn, 1) := by decide +kernel
set_option maxRecDepth 20000 in
theorem ggX4_merge_X4_groups : GoodIn wsX4_merge wsX4_groups := goodIn_r _ [8, 1, 9, 53, 54, 55, 56, 57, 58, 59, 60, 61, 62] (by decide +kernel) (by decide +kernel)
set_option maxRecDepth 20000 in
theorem gX4_merge_X4_groups : GoodIn wsX4_merge (wsV RX4 117 RX4 yX4_groups wsX4_groups) := goodIn_app (goodIn_of _ (by decide +kernel)) ggX4_merge_X4_groups
set_option maxRecDepth 20000 in
theorem ggX4_merge_X4_slot : GoodIn wsX4_merge wsX4_slot := goodIn_r _ [13, 1, 9, 3, 14, 15, 16, 7, 17, 18, 19, 20, 21, 22, 23, 24, 25, 26, 27, 28, 29, 30, 31, 32, 33, 34, 35, 36, 37, 38, 39, 40, 41, 42, 43, 44, 45, 46, 47, 48, 49, 50, 51, 52, 53, 54, 55, 56, 57, 58, 59, 60, 61, 62] (by decide +kernel) (by decide +kernel)
set_option maxRecDepth 20000 in
theorem gX4_merge_X4_slot : GoodIn wsX4_merge (wsV RX4 134 RX4 yX4_slot wsX4_slot) := goodIn_app (goodIn_of _ (by decide +kernel)) ggX4_merge_X4_slot
theorem dX4_merge_0 : decode cX4_merge 0 = .ok (.aload_n 0, 1) := by decide +kernel
theorem dX4_merge_1 : decode cX4_merge 1 = .ok (.getfield 7, 3) := by decide +kernel
theorem dX4_merge_4 : decode cX4_merge 4 = .ok (.iconst 1, 1) := by decide +kernel
theorem dX4_merge_5 : decode cX4_merge 5 = .ok (.iaload, 1) := by decide +kernel
theorem dX4_merge_6 : decode cX4_merge 6 = .ok (.ifCond .ne 6, 3) := by decide +kernel
theorem dX4_merge_9 : decode cX4_merge 9 = .ok (.ldc 110, 2) := by decide +kernel
theorem dX4_merge_11 : decode cX4_merge 11 = .ok (.ireturn, 1) := by decide +kernel
theorem dX4_merge_12 : decode cX4_merge 12 = .ok (.iconst 0, 1) := by decide +kernel
theorem dX4_merge_13 : decode cX4_merge 13 = .ok (.istore_n 1, 1) := by decide +kernel
theorem dX4_merge_14 : decode cX4_merge 14 = .ok (.iload_n 1, 1) := by decide +kernel
theorem dX4_merge_15 : decode cX4_merge 15 = .ok (.sipush 1500, 3) := by decide +kernel
theorem dX4_merge_18 : decode cX4_merge 18 = .ok (.if_icmp .ge 31, 3) := by decide +kernel
theorem dX4_merge_21 : decode cX4_merge 21 = .ok (.aload_n 0, 1) := by decide +kernel
theorem dX4_merge_22 : decode cX4_merge 22 = .ok (.getfield 73, 3) := by decide +kernel
theorem dX4_merge_25 : decode cX4_merge 25 = .ok (.sipush 3000, 3) := by decide +kernel
theorem dX4_merge_28 : decode cX4_merge 28 = .ok (.if_icmp .ge 21, 3) := by decide +kernel
theorem dX4_merge_31 : decode cX4_merge 31 = .ok (.aload_n 0, 1) := by decide +kernel
theorem dX4_merge_32 : decode cX4_merge 32 = .ok (.invokevirtual 117, 3) := by decide +kernel
theorem dX4_merge_35 : decode cX4_merge 35 = .ok (.iconst 1, 1) := by decide +kernel
theorem dX4_merge_36 : decode cX4_merge 36 = .ok (.if_icmp .le 13, 3) := by decide +kernel
theorem dX4_merge_39 : decode cX4_merge 39 = .ok (.aload_n 0, 1) := by decide +kernel
theorem dX4_merge_40 : decode cX4_merge 40 = .ok (.invokevirtual 134, 3) := by decide +kernel
theorem dX4_merge_43 : decode cX4_merge 43 = .ok (.iinc 1 1, 3) := by decide +kernel
theorem dX4_merge_46 : decode cX4_merge 46 = .ok (.goto (-32), 3) := by decide +kernel
theorem dX4_merge_49 : decode cX4_merge 49 = .ok (.aload_n 0, 1) := by decide +kernel
theorem dX4_merge_50 : decode cX4_merge 50 = .ok (.getfield 73, 3) := by decide +kernel
theorem dX4_merge_53 : decode cX4_merge 53 = .ok (.ireturn, 1) := by decide +kernel
set_option maxRecDepth 20000 in
theorem ggX4_part_X4_anew : GoodIn wsX4_part wsX4_anew := goodIn_r _ [6, 1, 7, 8, 9, 10, 11, 12, 13, 14, 15, 16, 17] (by decide +kernel) (by decide +kernel)
set_option maxRecDepth 20000 in
theorem gX4_part_X4_anew : GoodIn wsX4_part (wsV RX4 32 RX4 yX4_anew wsX4_anew) := goodIn_app (goodIn_of _ (by decide +kernel)) ggX4_part_X4_anew
theorem dX4_part_0 : decode cX4_part 0 = .ok (.aload_n 0, 1) := by decide +kernel
theorem dX4_part_1 : decode cX4_part 1 = .ok (.getfield 73, 3) := by decide +kernel
theorem dX4_part_4 : decode cX4_part 4 = .ok (.istore_n 1, 1) := by decide +kernel
theorem dX4_part_5 : decode cX4_part 5 = .ok (.aload_n 0, 1) := by decide +kernel
theorem dX4_part_6 : decode cX4_part 6 = .ok (.invokevirtual 32, 3) := by decide +kernel
theorem dX4_part_9 : decode cX4_part 9 = .ok (.iload_n 1, 1) := by decide +kernel
theorem dX4_part_10 : decode cX4_part 10 = .ok (.ireturn, 1) := by decide +kernel
set_option maxRecDepth 20000 in
theorem ggX4_keep_X4_in : GoodIn wsX4_keep wsX4_in := goodIn_r _ [8] (by decide +kernel) (by decide +kernel)
set_option maxRecDepth 20000 in
theorem gX4_keep_X4_in : GoodIn wsX4_keep (va_wsS RX4 43 yX4_in wsX4_in) := goodIn_app (goodIn_of _ (by decide +kernel)) ggX4_keep_X4_in
set_option maxRecDepth 20000 in
theorem ggX4_keep_X4_bring : GoodIn wsX4_keep wsX4_bring := goodIn_r _ [11] (by decide +kernel) (by decide +kernel)
set_option maxRecDepth 20000 in
theorem gX4_keep_X4_bring : GoodIn wsX4_keep (va_wsS RX4 79 yX4_bring wsX4_bring) := goodIn_app (goodIn_of _ (by decide +kernel)) ggX4_keep_X4_bring
theorem dX4_keep_0 : decode cX4_keep 0 = .ok (.iload_n 1, 1) := by decide +kernel
theorem dX4_keep_1 : decode cX4_keep 1 = .ok (.iconst 0, 1) := by decide +kernel
theorem dX4_keep_2 : decode cX4_keep 2 = .ok (.iconst 1, 1) := by decide +kernel
theorem dX4_keep_3 : decode cX4_keep 3 = .ok (.invokestatic 43, 3) := by decide +kernel
theorem dX4_keep_6 : decode cX4_keep 6 = .ok (.ifCond .ne 6, 3) := by decide +kernel
theorem dX4_keep_9 : decode cX4_keep 9 = .ok (.ldc 96, 2) := by decide +kernel
theorem dX4_keep_11 : decode cX4_keep 11 = .ok (.ireturn, 1) := by decide +kernel
theorem dX4_keep_12 : decode cX4_keep 12 = .ok (.aload_n 0, 1) := by decide +kernel
theorem dX4_keep_13 : decode cX4_keep 13 = .ok (.getfield 7, 3) := by decide +kernel
theorem dX4_keep_16 : decode cX4_keep 16 = .ok (.iconst 0, 1) := by decide +kernel
theorem dX4_keep_17 : decode cX4_keep 17 = .ok (.aload_n 0, 1) := by decide +kernel
theorem dX4_keep_18 : decode cX4_keep 18 = .ok (.getfield 16, 3) := by decide +kernel
theorem dX4_keep_21 : decode cX4_keep 21 = .ok (.bipush 60, 2) := by decide +kernel
theorem dX4_keep_23 : decode cX4_keep 23 = .ok (.iload_n 1, 1) := by decide +kernel
theorem dX4_keep_24 : decode cX4_keep 24 = .ok (.imul, 1) := by decide +kernel
theorem dX4_keep_25 : decode cX4_keep 25 = .ok (.bipush 60, 2) := by decide +kernel
theorem dX4_keep_27 : decode cX4_keep 27 = .ok (.invokestatic 79, 3) := by decide +kernel
theorem dX4_keep_30 : decode cX4_keep 30 = .ok (.aload_n 0, 1) := by decide +kernel
theorem dX4_keep_31 : decode cX4_keep 31 = .ok (.getfield 19, 3) := by decide +kernel
theorem dX4_keep_34 : decode cX4_keep 34 = .ok (.iload_n 1, 1) := by decide +kernel
theorem dX4_keep_35 : decode cX4_keep 35 = .ok (.iconst 1, 1) := by decide +kernel
theorem dX4_keep_36 : decode cX4_keep 36 = .ok (.bastore, 1) := by decide +kernel
theorem dX4_keep_37 : decode cX4_keep 37 = .ok (.aload_n 0, 1) := by decide +kernel
theorem dX4_keep_38 : decode cX4_keep 38 = .ok (.getfield 7, 3) := by decide +kernel
theorem dX4_keep_41 : decode cX4_keep 41 = .ok (.iconst 1, 1) := by decide +kernel
theorem dX4_keep_42 : decode cX4_keep 42 = .ok (.iaload, 1) := by decide +kernel
theorem dX4_keep_43 : decode cX4_keep 43 = .ok (.ireturn, 1) := by decide +kernel
set_option maxRecDepth 20000 in
theorem ggX4_goBack_X4_in : GoodIn wsX4_goBack wsX4_in := goodIn_r _ [10] (by decide +kernel) (by decide +kernel)
set_option maxRecDepth 20000 in
theorem gX4_goBack_X4_in : GoodIn wsX4_goBack (va_wsS RX4 43 yX4_in wsX4_in) := goodIn_app (goodIn_of _ (by decide +kernel)) ggX4_goBack_X4_in
set_option maxRecDepth 20000 in
theorem ggX4_goBack_X4_bring : GoodIn wsX4_goBack wsX4_bring := goodIn_r _ [13] (by decide +kernel) (by decide +kernel)
set_option maxRecDepth 20000 in
theorem gX4_goBack_X4_bring : GoodIn wsX4_goBack (va_wsS RX4 79 yX4_bring wsX4_bring) := goodIn_app (goodIn_of _ (by decide +kernel)) ggX4_goBack_X4_bring
set_option maxRecDepth 20000 in
theorem ggX4_goBack_X4_layPrime : GoodIn wsX4_goBack wsX4_layPrime := goodIn_r _ [17, 5, 18, 19, 20, 9, 21, 28, 29, 30, 31, 32, 33, 34, 35, 36, 37] (by decide +kernel) (by decide +kernel)
set_option maxRecDepth 20000 in
theorem gX4_goBack_X4_layPrime : GoodIn wsX4_goBack (wsV RX4 29 RX4 yX4_layPrime wsX4_layPrime) := goodIn_app (goodIn_of _ (by decide +kernel)) ggX4_goBack_X4_layPrime
set_option maxRecDepth 20000 in
theorem ggX4_goBack_X4_anew : GoodIn wsX4_goBack wsX4_anew := goodIn_r _ [25, 26, 27, 28, 29, 30, 31, 32, 33, 34, 35, 36, 37] (by decide +kernel) (by decide +kernel)
set_option maxRecDepth 20000 in
theorem gX4_goBack_X4_anew : GoodIn wsX4_goBack (wsV RX4 32 RX4 yX4_anew wsX4_anew) := goodIn_app (goodIn_of _ (by decide +kernel)) ggX4_goBack_X4_anew
theorem dX4_goBack_0 : decode cX4_goBack 0 = .ok (.iload_n 1, 1) := by decide +kernel
theorem dX4_goBack_1 : decode cX4_goBack 1 = .ok (.iconst 0, 1) := by decide +kernel
theorem dX4_goBack_2 : decode cX4_goBack 2 = .ok (.iconst 1, 1) := by decide +kernel
theorem dX4_goBack_3 : decode cX4_goBack 3 = .ok (.invokestatic 43, 3) := by decide +kernel
theorem dX4_goBack_6 : decode cX4_goBack 6 = .ok (.ifCond .ne 6, 3) := by decide +kernel
theorem dX4_goBack_9 : decode cX4_goBack 9 = .ok (.ldc 96, 2) := by decide +kernel
theorem dX4_goBack_11 : decode cX4_goBack 11 = .ok (.ireturn, 1) := by decide +kernel
theorem dX4_goBack_12 : decode cX4_goBack 12 = .ok (.aload_n 0, 1) := by decide +kernel
theorem dX4_goBack_13 : decode cX4_goBack 13 = .ok (.getfield 19, 3) := by decide +kernel
theorem dX4_goBack_16 : decode cX4_goBack 16 = .ok (.iload_n 1, 1) := by decide +kernel
theorem dX4_goBack_17 : decode cX4_goBack 17 = .ok (.baload, 1) := by decide +kernel
theorem dX4_goBack_18 : decode cX4_goBack 18 = .ok (.ifCond .ne 6, 3) := by decide +kernel
theorem dX4_goBack_21 : decode cX4_goBack 21 = .ok (.ldc 110, 2) := by decide +kernel
theorem dX4_goBack_23 : decode cX4_goBack 23 = .ok (.ireturn, 1) := by decide +kernel
theorem dX4_goBack_24 : decode cX4_goBack 24 = .ok (.aload_n 0, 1) := by decide +kernel
theorem dX4_goBack_25 : decode cX4_goBack 25 = .ok (.getfield 16, 3) := by decide +kernel
theorem dX4_goBack_28 : decode cX4_goBack 28 = .ok (.bipush 60, 2) := by decide +kernel
theorem dX4_goBack_30 : decode cX4_goBack 30 = .ok (.iload_n 1, 1) := by decide +kernel
theorem dX4_goBack_31 : decode cX4_goBack 31 = .ok (.imul, 1) := by decide +kernel
theorem dX4_goBack_32 : decode cX4_goBack 32 = .ok (.aload_n 0, 1) := by decide +kernel
theorem dX4_goBack_33 : decode cX4_goBack 33 = .ok (.getfield 7, 3) := by decide +kernel
theorem dX4_goBack_36 : decode cX4_goBack 36 = .ok (.iconst 0, 1) := by decide +kernel
theorem dX4_goBack_37 : decode cX4_goBack 37 = .ok (.bipush 60, 2) := by decide +kernel
theorem dX4_goBack_39 : decode cX4_goBack 39 = .ok (.invokestatic 79, 3) := by decide +kernel
theorem dX4_goBack_42 : decode cX4_goBack 42 = .ok (.aload_n 0, 1) := by decide +kernel
theorem dX4_goBack_43 : decode cX4_goBack 43 = .ok (.iconst 0, 1) := by decide +kernel
theorem dX4_goBack_44 : decode cX4_goBack 44 = .ok (.putfield 76, 3) := by decide +kernel
theorem dX4_goBack_47 : decode cX4_goBack 47 = .ok (.aload_n 0, 1) := by decide +kernel
theorem dX4_goBack_48 : decode cX4_goBack 48 = .ok (.invokevirtual 29, 3) := by decide +kernel
theorem dX4_goBack_51 : decode cX4_goBack 51 = .ok (.aload_n 0, 1) := by decide +kernel
theorem dX4_goBack_52 : decode cX4_goBack 52 = .ok (.invokevirtual 32, 3) := by decide +kernel
theorem dX4_goBack_55 : decode cX4_goBack 55 = .ok (.aload_n 0, 1) := by decide +kernel
theorem dX4_goBack_56 : decode cX4_goBack 56 = .ok (.getfield 7, 3) := by decide +kernel
theorem dX4_goBack_59 : decode cX4_goBack 59 = .ok (.iconst 1, 1) := by decide +kernel
theorem dX4_goBack_60 : decode cX4_goBack 60 = .ok (.iaload, 1) := by decide +kernel
theorem dX4_goBack_61 : decode cX4_goBack 61 = .ok (.ireturn, 1) := by decide +kernel
theorem dJ6_bitCount_0f7a4_0 : decode cJ6_bitCount_0f7a4 0 = .ok (.iload_n 0, 1) := by decide +kernel
theorem dJ6_bitCount_0f7a4_1 : decode cJ6_bitCount_0f7a4 1 = .ok (.iload_n 0, 1) := by decide +kernel
theorem dJ6_bitCount_0f7a4_2 : decode cJ6_bitCount_0f7a4 2 = .ok (.iconst 1, 1) := by decide +kernel
theorem dJ6_bitCount_0f7a4_3 : decode cJ6_bitCount_0f7a4 3 = .ok (.iushr, 1) := by decide +kernel
theorem dJ6_bitCount_0f7a4_4 : decode cJ6_bitCount_0f7a4 4 = .ok (.ldc_w 265, 3) := by decide +kernel
theorem dJ6_bitCount_0f7a4_7 : decode cJ6_bitCount_0f7a4 7 = .ok (.iand, 1) := by decide +kernel
theorem dJ6_bitCount_0f7a4_8 : decode cJ6_bitCount_0f7a4 8 = .ok (.isub, 1) := by decide +kernel
theorem dJ6_bitCount_0f7a4_9 : decode cJ6_bitCount_0f7a4 9 = .ok (.istore_n 0, 1) := by decide +kernel
theorem dJ6_bitCount_0f7a4_10 : decode cJ6_bitCount_0f7a4 10 = .ok (.iload_n 0, 1) := by decide +kernel
theorem dJ6_bitCount_0f7a4_11 : decode cJ6_bitCount_0f7a4 11 = .ok (.ldc_w 266, 3) := by decide +kernel
theorem dJ6_bitCount_0f7a4_14 : decode cJ6_bitCount_0f7a4 14 = .ok (.iand, 1) := by decide +kernel
theorem dJ6_bitCount_0f7a4_15 : decode cJ6_bitCount_0f7a4 15 = .ok (.iload_n 0, 1) := by decide +kernel
theorem dJ6_bitCount_0f7a4_16 : decode cJ6_bitCount_0f7a4 16 = .ok (.iconst 2, 1) := by decide +kernel
theorem dJ6_bitCount_0f7a4_17 : decode cJ6_bitCount_0f7a4 17 = .ok (.iushr, 1) := by decide +kernel
theorem dJ6_bitCount_0f7a4_18 : decode cJ6_bitCount_0f7a4 18 = .ok (.ldc_w 266, 3) := by decide +kernel
theorem dJ6_bitCount_0f7a4_21 : decode cJ6_bitCount_0f7a4 21 = .ok (.iand, 1) := by decide +kernel
theorem dJ6_bitCount_0f7a4_22 : decode cJ6_bitCount_0f7a4 22 = .ok (.iadd, 1) := by decide +kernel
theorem dJ6_bitCount_0f7a4_23 : decode cJ6_bitCount_0f7a4 23 = .ok (.istore_n 0, 1) := by decide +kernel
theorem dJ6_bitCount_0f7a4_24 : decode cJ6_bitCount_0f7a4 24 = .ok (.iload_n 0, 1) := by decide +kernel
theorem dJ6_bitCount_0f7a4_25 : decode cJ6_bitCount_0f7a4 25 = .ok (.iload_n 0, 1) := by decide +kernel
theorem dJ6_bitCount_0f7a4_26 : decode cJ6_bitCount_0f7a4 26 = .ok (.iconst 4, 1) := by decide +kernel
theorem dJ6_bitCount_0f7a4_27 : decode cJ6_bitCount_0f7a4 27 = .ok (.iushr, 1) := by decide +kernel
theorem dJ6_bitCount_0f7a4_28 : decode cJ6_bitCount_0f7a4 28 = .ok (.iadd, 1) := by decide +kernel
theorem dJ6_bitCount_0f7a4_29 : decode cJ6_bitCount_0f7a4 29 = .ok (.ldc_w 267, 3) := by decide +kernel
theorem dJ6_bitCount_0f7a4_32 : decode cJ6_bitCount_0f7a4 32 = .ok (.iand, 1) := by decide +kernel
theorem dJ6_bitCount_0f7a4_33 : decode cJ6_bitCount_0f7a4 33 = .ok (.istore_n 0, 1) := by decide +kernel
theorem dJ6_bitCount_0f7a4_34 : decode cJ6_bitCount_0f7a4 34 = .ok (.iload_n 0, 1) := by decide +kernel
theorem dJ6_bitCount_0f7a4_35 : decode cJ6_bitCount_0f7a4 35 = .ok (.iload_n 0, 1) := by decide +kernel
theorem dJ6_bitCount_0f7a4_36 : decode cJ6_bitCount_0f7a4 36 = .ok (.bipush 8, 2) := by decide +kernel
theorem dJ6_bitCount_0f7a4_38 : decode cJ6_bitCount_0f7a4 38 = .ok (.iushr, 1) := by decide +kernel
theorem dJ6_bitCount_0f7a4_39 : decode cJ6_bitCount_0f7a4 39 = .ok (.iadd, 1) := by decide +kernel
theorem dJ6_bitCount_0f7a4_40 : decode cJ6_bitCount_0f7a4 40 = .ok (.istore_n 0, 1) := by decide +kernel
theorem dJ6_bitCount_0f7a4_41 : decode cJ6_bitCount_0f7a4 41 = .ok (.iload_n 0, 1) := by decide +kernel
theorem dJ6_bitCount_0f7a4_42 : decode cJ6_bitCount_0f7a4 42 = .ok (.iload_n 0, 1) := by decide +kernel
theorem dJ6_bitCount_0f7a4_43 : decode cJ6_bitCount_0f7a4 43 = .ok (.bipush 16, 2) := by decide +kernel
theorem dJ6_bitCount_0f7a4_45 : decode cJ6_bitCount_0f7a4 45 = .ok (.iushr, 1) := by decide +kernel
theorem dJ6_bitCount_0f7a4_46 : decode cJ6_bitCount_0f7a4 46 = .ok (.iadd, 1) := by decide +kernel
theorem dJ6_bitCount_0f7a4_47 : decode cJ6_bitCount_0f7a4 47 = .ok (.istore_n 0, 1) := by decide +kernel
theorem dJ6_bitCount_0f7a4_48 : decode cJ6_bitCount_0f7a4 48 = .ok (.iload_n 0, 1) := by decide +kernel
theorem dJ6_bitCount_0f7a4_49 : decode cJ6_bitCount_0f7a4 49 = .ok (.bipush 63, 2) := by decide +kernel
theorem dJ6_bitCount_0f7a4_51 : decode cJ6_bitCount_0f7a4 51 = .ok (.iand, 1) := by decide +kernel
theorem dJ6_bitCount_0f7a4_52 : decode cJ6_bitCount_0f7a4 52 = .ok (.ireturn, 1) := by decide +kernel
theorem dJ9_max_7cf53_0 : decode cJ9_max_7cf53 0 = .ok (.iload_n 0, 1) := by decide +kernel
theorem dJ9_max_7cf53_1 : decode cJ9_max_7cf53 1 = .ok (.iload_n 1, 1) := by decide +kernel
theorem dJ9_max_7cf53_2 : decode cJ9_max_7cf53 2 = .ok (.if_icmp .lt 7, 3) := by decide +kernel
theorem dJ9_max_7cf53_5 : decode cJ9_max_7cf53 5 = .ok (.iload_n 0, 1) := by decide +kernel
theorem dJ9_max_7cf53_6 : decode cJ9_max_7cf53 6 = .ok (.goto 4, 3) := by decide +kernel
theorem dJ9_max_7cf53_9 : decode cJ9_max_7cf53 9 = .ok (.iload_n 1, 1) := by decide +kernel
theorem dJ9_max_7cf53_10 : decode cJ9_max_7cf53 10 = .ok (.ireturn, 1) := by decide +kernel
theorem dJ9_min_7cf53_0 : decode cJ9_min_7cf53 0 = .ok (.iload_n 0, 1) := by decide +kernel
theorem dJ9_min_7cf53_1 : decode cJ9_min_7cf53 1 = .ok (.iload_n 1, 1) := by decide +kernel
theorem dJ9_min_7cf53_2 : decode cJ9_min_7cf53 2 = .ok (.if_icmp .gt 7, 3) := by decide +kernel
theorem dJ9_min_7cf53_5 : decode cJ9_min_7cf53 5 = .ok (.iload_n 0, 1) := by decide +kernel
theorem dJ9_min_7cf53_6 : decode cJ9_min_7cf53 6 = .ok (.goto 4, 3) := by decide +kernel
theorem dJ9_min_7cf53_9 : decode cJ9_min_7cf53 9 = .ok (.iload_n 1, 1) := by decide +kernel
theorem dJ9_min_7cf53_10 : decode cJ9_min_7cf53 10 = .ok (.ireturn, 1) := by decide +kernel
abbrev vwCl : List vw_C := [(RX0, TX0, 4), (RX1, TX1, 3), (RX2, TX2, 6), (RX3, TX3, 8), (RX4, TX4, 10)]

