section
-- ===== PART A: goes FIRST, ahead of the names: the tables' words, and 'selects' of the private methods out of them =====
/-- a private method of a class that the tables say can be made, by its rows of tables_1 -/
def lw_okq (q : MethodName × Nat) : Prop := (q.1.cls ≠ "java/lang/invoke/MethodHandle" ∧ q.1.cls ≠ "java/lang/invoke/VarHandle") ∧ Cond.instantiable q.1.cls q.2 ∈ tables_1 ∧ Cond.privateMethod q.1 ∈ tables_1 ∧ Cond.instanceMethod q.1 ∈ tables_1
theorem lw_p0 : lw_okq (⟨"GroupSeats", "tryThoseWaiting", "()I"⟩, 8) := ⟨⟨by decide +kernel, by decide +kernel⟩, List.mem_of_getElem? (i := 8) (by decide +kernel), List.mem_of_getElem? (i := 106) (by decide +kernel), List.mem_of_getElem? (i := 107) (by decide +kernel)⟩
theorem lw_p1 : lw_okq (⟨"GroupSeats", "goThrough", "(LGroupSeats$Party;)I"⟩, 8) := ⟨⟨by decide +kernel, by decide +kernel⟩, List.mem_of_getElem? (i := 8) (by decide +kernel), List.mem_of_getElem? (i := 110) (by decide +kernel), List.mem_of_getElem? (i := 111) (by decide +kernel)⟩
theorem lw_p2 : lw_okq (⟨"GroupSeats", "goOn", "(LGroupSeats$Party;II)I"⟩, 8) := ⟨⟨by decide +kernel, by decide +kernel⟩, List.mem_of_getElem? (i := 8) (by decide +kernel), List.mem_of_getElem? (i := 114) (by decide +kernel), List.mem_of_getElem? (i := 115) (by decide +kernel)⟩
theorem lw_p3 : lw_okq (⟨"GroupSeats", "obstacleAt", "(LGroupSeats$Party;I)I"⟩, 8) := ⟨⟨by decide +kernel, by decide +kernel⟩, List.mem_of_getElem? (i := 8) (by decide +kernel), List.mem_of_getElem? (i := 118) (by decide +kernel), List.mem_of_getElem? (i := 119) (by decide +kernel)⟩
theorem lw_p4 : lw_okq (⟨"GroupSeats", "queueUp", "()V"⟩, 8) := ⟨⟨by decide +kernel, by decide +kernel⟩, List.mem_of_getElem? (i := 8) (by decide +kernel), List.mem_of_getElem? (i := 163) (by decide +kernel), List.mem_of_getElem? (i := 164) (by decide +kernel)⟩
theorem lw_p5 : lw_okq (⟨"GroupSeats", "isBooking", "(I)Z"⟩, 8) := ⟨⟨by decide +kernel, by decide +kernel⟩, List.mem_of_getElem? (i := 8) (by decide +kernel), List.mem_of_getElem? (i := 171) (by decide +kernel), List.mem_of_getElem? (i := 172) (by decide +kernel)⟩
theorem lw_p6 : lw_okq (⟨"GroupSeats", "isWaiting", "(I)Z"⟩, 8) := ⟨⟨by decide +kernel, by decide +kernel⟩, List.mem_of_getElem? (i := 8) (by decide +kernel), List.mem_of_getElem? (i := 183) (by decide +kernel), List.mem_of_getElem? (i := 184) (by decide +kernel)⟩
theorem lw_p7 : lw_okq (⟨"GroupSeats", "openRows", "()I"⟩, 8) := ⟨⟨by decide +kernel, by decide +kernel⟩, List.mem_of_getElem? (i := 8) (by decide +kernel), List.mem_of_getElem? (i := 203) (by decide +kernel), List.mem_of_getElem? (i := 204) (by decide +kernel)⟩
theorem lw_p8 : lw_okq (⟨"GroupSeatsModel", "tried", "()I"⟩, 21) := ⟨⟨by decide +kernel, by decide +kernel⟩, List.mem_of_getElem? (i := 211) (by decide +kernel), List.mem_of_getElem? (i := 288) (by decide +kernel), List.mem_of_getElem? (i := 289) (by decide +kernel)⟩
theorem lw_p9 : lw_okq (⟨"GroupSeatsModel", "goes", "(II)I"⟩, 21) := ⟨⟨by decide +kernel, by decide +kernel⟩, List.mem_of_getElem? (i := 211) (by decide +kernel), List.mem_of_getElem? (i := 292) (by decide +kernel), List.mem_of_getElem? (i := 293) (by decide +kernel)⟩
theorem lw_p10 : lw_okq (⟨"GroupSeatsModel", "takes", "(II)I"⟩, 21) := ⟨⟨by decide +kernel, by decide +kernel⟩, List.mem_of_getElem? (i := 211) (by decide +kernel), List.mem_of_getElem? (i := 296) (by decide +kernel), List.mem_of_getElem? (i := 297) (by decide +kernel)⟩
theorem lw_p11 : lw_okq (⟨"GroupSeatsModel", "mark", "(III)I"⟩, 21) := ⟨⟨by decide +kernel, by decide +kernel⟩, List.mem_of_getElem? (i := 211) (by decide +kernel), List.mem_of_getElem? (i := 300) (by decide +kernel), List.mem_of_getElem? (i := 301) (by decide +kernel)⟩
theorem lw_p12 : lw_okq (⟨"GroupSeatsModel", "stretch", "(II)I"⟩, 21) := ⟨⟨by decide +kernel, by decide +kernel⟩, List.mem_of_getElem? (i := 211) (by decide +kernel), List.mem_of_getElem? (i := 304) (by decide +kernel), List.mem_of_getElem? (i := 305) (by decide +kernel)⟩
theorem lw_p13 : lw_okq (⟨"GroupSeatsModel", "giveBack", "(I)V"⟩, 21) := ⟨⟨by decide +kernel, by decide +kernel⟩, List.mem_of_getElem? (i := 211) (by decide +kernel), List.mem_of_getElem? (i := 308) (by decide +kernel), List.mem_of_getElem? (i := 309) (by decide +kernel)⟩
theorem lw_p14 : lw_okq (⟨"GroupSeatsModel", "removed", "(I)V"⟩, 21) := ⟨⟨by decide +kernel, by decide +kernel⟩, List.mem_of_getElem? (i := 211) (by decide +kernel), List.mem_of_getElem? (i := 312) (by decide +kernel), List.mem_of_getElem? (i := 313) (by decide +kernel)⟩
theorem lw_p15 : lw_okq (⟨"GroupSeatsModel", "free", "(I)I"⟩, 21) := ⟨⟨by decide +kernel, by decide +kernel⟩, List.mem_of_getElem? (i := 211) (by decide +kernel), List.mem_of_getElem? (i := 320) (by decide +kernel), List.mem_of_getElem? (i := 321) (by decide +kernel)⟩
def lw_privs_1 : List (MethodName × Nat) := [(⟨"GroupSeats", "tryThoseWaiting", "()I"⟩, 8), (⟨"GroupSeats", "goThrough", "(LGroupSeats$Party;)I"⟩, 8), (⟨"GroupSeats", "goOn", "(LGroupSeats$Party;II)I"⟩, 8), (⟨"GroupSeats", "obstacleAt", "(LGroupSeats$Party;I)I"⟩, 8), (⟨"GroupSeats", "queueUp", "()V"⟩, 8), (⟨"GroupSeats", "isBooking", "(I)Z"⟩, 8), (⟨"GroupSeats", "isWaiting", "(I)Z"⟩, 8), (⟨"GroupSeats", "openRows", "()I"⟩, 8), (⟨"GroupSeatsModel", "tried", "()I"⟩, 21), (⟨"GroupSeatsModel", "goes", "(II)I"⟩, 21), (⟨"GroupSeatsModel", "takes", "(II)I"⟩, 21), (⟨"GroupSeatsModel", "mark", "(III)I"⟩, 21), (⟨"GroupSeatsModel", "stretch", "(II)I"⟩, 21), (⟨"GroupSeatsModel", "giveBack", "(I)V"⟩, 21), (⟨"GroupSeatsModel", "removed", "(I)V"⟩, 21), (⟨"GroupSeatsModel", "free", "(I)I"⟩, 21)]
theorem lw_r1 : ∀ q ∈ lw_privs_1, lw_okq q := List.forall_mem_cons.mpr ⟨lw_p0, List.forall_mem_cons.mpr ⟨lw_p1, List.forall_mem_cons.mpr ⟨lw_p2, List.forall_mem_cons.mpr ⟨lw_p3, List.forall_mem_cons.mpr ⟨lw_p4, List.forall_mem_cons.mpr ⟨lw_p5, List.forall_mem_cons.mpr ⟨lw_p6, List.forall_mem_cons.mpr ⟨lw_p7, List.forall_mem_cons.mpr ⟨lw_p8, List.forall_mem_cons.mpr ⟨lw_p9, List.forall_mem_cons.mpr ⟨lw_p10, List.forall_mem_cons.mpr ⟨lw_p11, List.forall_mem_cons.mpr ⟨lw_p12, List.forall_mem_cons.mpr ⟨lw_p13, List.forall_mem_cons.mpr ⟨lw_p14, List.forall_mem_cons.mpr ⟨lw_p15, fun _ h => absurd h List.not_mem_nil⟩⟩⟩⟩⟩⟩⟩⟩⟩⟩⟩⟩⟩⟩⟩⟩
def lw_privs : List (MethodName × Nat) := lw_privs_1
def lw_tbl : List Cond := k2_sels lw_privs ++ tables_1
theorem lw_privs_ok : ∀ q ∈ lw_privs, lw_okq q := lw_r1
/-! ===== BEGIN words of one list among another's, by their places ===== -/
theorem goodIn_r {big : List Cond} (ws : List Cond) (ps : List Nat) (hp : ws = ps.filterMap (fun i => big[i]?)) (h : ws.all goodWord = true) : GoodIn big ws := by
  intro w hw
  have h1 := List.all_eq_true.mp h w hw
  rw [hp] at hw
  obtain ⟨i, -, hi⟩ := List.mem_filterMap.mp hw
  have hm : w ∈ big := by first | exact List.mem_of_getElem? hi | exact List.getElem?_mem hi
  exact ⟨hm, good_of_word h1⟩
theorem goodIn_app {big a b : List Cond} (ha : GoodIn big a) (hb : GoodIn big b) : GoodIn big (a ++ b) := fun w h => (List.mem_append.mp h).elim (ha w) (hb w)
theorem goodIn_ca {big a b : List Cond} {c : Cond} (ha : GoodIn big (c :: a)) (hb : GoodIn big b) : GoodIn big (c :: (a ++ b)) := fun w h => (List.mem_cons.mp h).elim (fun e => ha w (List.mem_cons.mpr (Or.inl e))) (fun h => (List.mem_append.mp h).elim (fun h => ha w (List.mem_cons.mpr (Or.inr h))) (hb w))
theorem goodIn_sub {big ws : List Cond} (hm : ∀ w ∈ ws, w ∈ big) (h : ws.all goodWord = true) : GoodIn big ws := fun w hw => ⟨hm w hw, good_of_word (List.all_eq_true.mp h w hw)⟩
/-! ===== END ===== -/

/-! ===== BEGIN printed: names, fields, word lists, decode rows ===== -/
def RX0 : String := "GroupSeats$Party"
def TX0 : u_T := fun k => match k with
  | 0 => ("GroupSeats$Party", "numbers", "[I", true)
  | 1 => ("GroupSeats$Party", "listed", "I", false)
  | 2 => ("GroupSeats$Party", "size", "I", false)
  | _ => ("GroupSeats$Party", "mode", "I", false)
def tyX0 : Nat → FieldType := fun k => match k with
  | 0 => .array .int
  | 1 => .int
  | 2 => .int
  | _ => .int
abbrev wsX00 : List Cond := u_ws RX0 TX0 4
theorem nmX0 : ∀ a, a < 4 → ∀ b, b < 4 → a ≠ b → (TX0 a).2.1 ≠ (TX0 b).2.1 := by decide +kernel
theorem tyX0_ok : ∀ k, k < 4 → parseFieldDescriptor (TX0 k).2.2.1 = some (tyX0 k) := by decide +kernel
abbrev cX0_init : ByteArray := prog_2_method_1_code
def yX0_init : MethodName := ⟨RX0, "<init>", "()V"⟩
def RX1 : String := "GroupSeats$Row"
def TX1 : u_T := fun k => match k with
  | 0 => ("GroupSeats$Row", "owners", "[I", true)
  | 1 => ("GroupSeats$Row", "size", "I", false)
  | 2 => ("GroupSeats$Row", "sideBySide", "Z", false)
  | 3 => ("GroupSeats$Row", "holds", "I", false)
  | _ => ("GroupSeats$Row", "backs", "I", false)
def tyX1 : Nat → FieldType := fun k => match k with
  | 0 => .array .int
  | 1 => .int
  | 2 => .boolean
  | 3 => .int
  | _ => .int
abbrev wsX10 : List Cond := u_ws RX1 TX1 5
theorem nmX1 : ∀ a, a < 5 → ∀ b, b < 5 → a ≠ b → (TX1 a).2.1 ≠ (TX1 b).2.1 := by decide +kernel
theorem tyX1_ok : ∀ k, k < 5 → parseFieldDescriptor (TX1 k).2.2.1 = some (tyX1 k) := by decide +kernel
abbrev cX1_init : ByteArray := prog_3_method_1_code
def yX1_init : MethodName := ⟨RX1, "<init>", "()V"⟩
abbrev cX1_isOpen : ByteArray := prog_3_method_2_code
def yX1_isOpen : MethodName := ⟨RX1, "isOpen", "()Z"⟩
abbrev cX1_begin : ByteArray := prog_3_method_3_code
def yX1_begin : MethodName := ⟨RX1, "begin", "(I)V"⟩
abbrev cX1_seatsOf : ByteArray := prog_3_method_4_code
def yX1_seatsOf : MethodName := ⟨RX1, "seatsOf", "(I)I"⟩
abbrev cX1_freeSeatsOf : ByteArray := prog_3_method_5_code
def yX1_freeSeatsOf : MethodName := ⟨RX1, "freeSeatsOf", "(I)V"⟩
abbrev cX1_take : ByteArray := prog_3_method_6_code
def yX1_take : MethodName := ⟨RX1, "take", "(II)I"⟩
abbrev cX1_bestStretch : ByteArray := prog_3_method_7_code
def yX1_bestStretch : MethodName := ⟨RX1, "bestStretch", "(I)I"⟩
abbrev cX1_giveBack : ByteArray := prog_3_method_8_code
def yX1_giveBack : MethodName := ⟨RX1, "giveBack", "(I)V"⟩
def RX2 : String := "GroupSeats"
def TX2 : u_T := fun k => match k with
  | 0 => ("GroupSeats", "rows", "[LGroupSeats$Row;", true)
  | 1 => ("GroupSeats", "cancelled", "[Z", true)
  | 2 => ("GroupSeats", "queue", "[LGroupSeats$Party;", true)
  | 3 => ("GroupSeats", "coming", "LGroupSeats$Party;", false)
  | 4 => ("GroupSeats", "bookings", "I", false)
  | 5 => ("GroupSeats", "waiters", "I", false)
  | 6 => ("GroupSeats", "mostHeld", "I", false)
  | _ => ("GroupSeats", "failures", "I", false)
def tyX2 : Nat → FieldType := fun k => match k with
  | 0 => .array (.object "GroupSeats$Row")
  | 1 => .array .boolean
  | 2 => .array (.object "GroupSeats$Party")
  | 3 => .object "GroupSeats$Party"
  | 4 => .int
  | 5 => .int
  | 6 => .int
  | _ => .int
abbrev wsX20 : List Cond := u_ws RX2 TX2 8
theorem nmX2 : ∀ a, a < 8 → ∀ b, b < 8 → a ≠ b → (TX2 a).2.1 ≠ (TX2 b).2.1 := by decide +kernel
theorem tyX2_ok : ∀ k, k < 8 → parseFieldDescriptor (TX2 k).2.2.1 = some (tyX2 k) := by decide +kernel
abbrev cX2_init : ByteArray := prog_1_method_1_code
def yX2_init : MethodName := ⟨RX2, "<init>", "()V"⟩
abbrev cX2_open : ByteArray := prog_1_method_2_code
def yX2_open : MethodName := ⟨RX2, "open", "(II)I"⟩
abbrev cX2_shut : ByteArray := prog_1_method_3_code
def yX2_shut : MethodName := ⟨RX2, "shut", "(I)I"⟩
abbrev cX2_strict : ByteArray := prog_1_method_4_code
def yX2_strict : MethodName := ⟨RX2, "strict", "(IZ)I"⟩
abbrev cX2_list : ByteArray := prog_1_method_5_code
def yX2_list : MethodName := ⟨RX2, "list", "(I)I"⟩
abbrev cX2_book : ByteArray := prog_1_method_6_code
def yX2_book : MethodName := ⟨RX2, "book", "(II)I"⟩
abbrev cX2_cancel : ByteArray := prog_1_method_7_code
def yX2_cancel : MethodName := ⟨RX2, "cancel", "(I)I"⟩
abbrev cX2_leave : ByteArray := prog_1_method_8_code
def yX2_leave : MethodName := ⟨RX2, "leave", "(I)I"⟩
abbrev cX2_seat : ByteArray := prog_1_method_9_code
def yX2_seat : MethodName := ⟨RX2, "seat", "(II)I"⟩
abbrev cX2_has : ByteArray := prog_1_method_10_code
def yX2_has : MethodName := ⟨RX2, "has", "(II)I"⟩
abbrev cX2_about : ByteArray := prog_1_method_11_code
def yX2_about : MethodName := ⟨RX2, "about", "(II)I"⟩
abbrev cX2_told : ByteArray := prog_1_method_12_code
def yX2_told : MethodName := ⟨RX2, "told", "(I)I"⟩
abbrev cX2_waiting : ByteArray := prog_1_method_13_code
def yX2_waiting : MethodName := ⟨RX2, "waiting", "(I)I"⟩
abbrev cX2_isRow : ByteArray := prog_1_method_14_code
def yX2_isRow : MethodName := ⟨RX2, "isRow", "(I)Z"⟩
abbrev cX2_isBooking : ByteArray := prog_1_method_15_code
def yX2_isBooking : MethodName := ⟨RX2, "isBooking", "(I)Z"⟩
abbrev cX2_isWaiting : ByteArray := prog_1_method_16_code
def yX2_isWaiting : MethodName := ⟨RX2, "isWaiting", "(I)Z"⟩
abbrev cX2_openRows : ByteArray := prog_1_method_17_code
def yX2_openRows : MethodName := ⟨RX2, "openRows", "()I"⟩
abbrev cX2_queueUp : ByteArray := prog_1_method_18_code
def yX2_queueUp : MethodName := ⟨RX2, "queueUp", "()V"⟩
abbrev cX2_tryThoseWaiting : ByteArray := prog_1_method_19_code
def yX2_tryThoseWaiting : MethodName := ⟨RX2, "tryThoseWaiting", "()I"⟩
abbrev cX2_goThrough : ByteArray := prog_1_method_20_code
def yX2_goThrough : MethodName := ⟨RX2, "goThrough", "(LGroupSeats$Party;)I"⟩
abbrev cX2_goOn : ByteArray := prog_1_method_21_code
def yX2_goOn : MethodName := ⟨RX2, "goOn", "(LGroupSeats$Party;II)I"⟩
abbrev cX2_obstacleAt : ByteArray := prog_1_method_22_code
def yX2_obstacleAt : MethodName := ⟨RX2, "obstacleAt", "(LGroupSeats$Party;I)I"⟩
def RX3 : String := "GroupSeatsModel"
def TX3 : u_T := fun k => match k with
  | 0 => ("GroupSeatsModel", "thrown", "I", false)
  | 1 => ("GroupSeatsModel", "isOpen", "[Z", true)
  | 2 => ("GroupSeatsModel", "isStrict", "[Z", true)
  | 3 => ("GroupSeatsModel", "size", "[I", true)
  | 4 => ("GroupSeatsModel", "holds", "[I", true)
  | 5 => ("GroupSeatsModel", "back", "[I", true)
  | 6 => ("GroupSeatsModel", "seats", "[I", true)
  | 7 => ("GroupSeatsModel", "list", "[I", true)
  | 8 => ("GroupSeatsModel", "listed", "I", false)
  | 9 => ("GroupSeatsModel", "bookings", "I", false)
  | 10 => ("GroupSeatsModel", "isCancelled", "[Z", true)
  | 11 => ("GroupSeatsModel", "people", "[I", true)
  | 12 => ("GroupSeatsModel", "lists", "[I", true)
  | 13 => ("GroupSeatsModel", "lengths", "[I", true)
  | 14 => ("GroupSeatsModel", "waits", "I", false)
  | 15 => ("GroupSeatsModel", "most", "I", false)
  | 16 => ("GroupSeatsModel", "failures", "I", false)
  | 17 => ("GroupSeatsModel", "way", "[I", true)
  | 18 => ("GroupSeatsModel", "wayLong", "I", false)
  | 19 => ("GroupSeatsModel", "taken", "[I", true)
  | _ => ("GroupSeatsModel", "found", "I", false)
def tyX3 : Nat → FieldType := fun k => match k with
  | 0 => .int
  | 1 => .array .boolean
  | 2 => .array .boolean
  | 3 => .array .int
  | 4 => .array .int
  | 5 => .array .int
  | 6 => .array .int
  | 7 => .array .int
  | 8 => .int
  | 9 => .int
  | 10 => .array .boolean
  | 11 => .array .int
  | 12 => .array .int
  | 13 => .array .int
  | 14 => .int
  | 15 => .int
  | 16 => .int
  | 17 => .array .int
  | 18 => .int
  | 19 => .array .int
  | _ => .int
abbrev wsX30 : List Cond := u_ws RX3 TX3 21
theorem nmX3 : ∀ a, a < 21 → ∀ b, b < 21 → a ≠ b → (TX3 a).2.1 ≠ (TX3 b).2.1 := by decide +kernel
theorem tyX3_ok : ∀ k, k < 21 → parseFieldDescriptor (TX3 k).2.2.1 = some (tyX3 k) := by decide +kernel
abbrev cX3_init : ByteArray := prog_5_method_1_code
def yX3_init : MethodName := ⟨RX3, "<init>", "()V"⟩
abbrev cX3_in : ByteArray := prog_5_method_3_code
def yX3_in : MethodName := ⟨RX3, "in", "(III)Z"⟩
abbrev cX3_mark : ByteArray := prog_5_method_4_code
def yX3_mark : MethodName := ⟨RX3, "mark", "(III)I"⟩
abbrev cX3_stretch : ByteArray := prog_5_method_5_code
def yX3_stretch : MethodName := ⟨RX3, "stretch", "(II)I"⟩
abbrev cX3_takes : ByteArray := prog_5_method_6_code
def yX3_takes : MethodName := ⟨RX3, "takes", "(II)I"⟩
abbrev cX3_giveBack : ByteArray := prog_5_method_7_code
def yX3_giveBack : MethodName := ⟨RX3, "giveBack", "(I)V"⟩
abbrev cX3_goes : ByteArray := prog_5_method_8_code
def yX3_goes : MethodName := ⟨RX3, "goes", "(II)I"⟩
abbrev cX3_removed : ByteArray := prog_5_method_9_code
def yX3_removed : MethodName := ⟨RX3, "removed", "(I)V"⟩
abbrev cX3_tried : ByteArray := prog_5_method_10_code
def yX3_tried : MethodName := ⟨RX3, "tried", "()I"⟩
abbrev cX3_open : ByteArray := prog_5_method_11_code
def yX3_open : MethodName := ⟨RX3, "open", "(II)I"⟩
abbrev cX3_free : ByteArray := prog_5_method_12_code
def yX3_free : MethodName := ⟨RX3, "free", "(I)I"⟩
abbrev cX3_shut : ByteArray := prog_5_method_13_code
def yX3_shut : MethodName := ⟨RX3, "shut", "(I)I"⟩
abbrev cX3_strict : ByteArray := prog_5_method_14_code
def yX3_strict : MethodName := ⟨RX3, "strict", "(IZ)I"⟩
abbrev cX3_list : ByteArray := prog_5_method_15_code
def yX3_list : MethodName := ⟨RX3, "list", "(I)I"⟩
abbrev cX3_book : ByteArray := prog_5_method_16_code
def yX3_book : MethodName := ⟨RX3, "book", "(II)I"⟩
abbrev cX3_cancel : ByteArray := prog_5_method_17_code
def yX3_cancel : MethodName := ⟨RX3, "cancel", "(I)I"⟩
abbrev cX3_leave : ByteArray := prog_5_method_18_code
def yX3_leave : MethodName := ⟨RX3, "leave", "(I)I"⟩
abbrev cX3_seat : ByteArray := prog_5_method_19_code
def yX3_seat : MethodName := ⟨RX3, "seat", "(II)I"⟩
abbrev cX3_has : ByteArray := prog_5_method_20_code
def yX3_has : MethodName := ⟨RX3, "has", "(II)I"⟩
abbrev cX3_about : ByteArray := prog_5_method_21_code
def yX3_about : MethodName := ⟨RX3, "about", "(II)I"⟩
abbrev cX3_told : ByteArray := prog_5_method_22_code
def yX3_told : MethodName := ⟨RX3, "told", "(I)I"⟩
abbrev cX3_waiting : ByteArray := prog_5_method_23_code
def yX3_waiting : MethodName := ⟨RX3, "waiting", "(I)I"⟩
def RJ6 : String := "java/lang/Integer"
def TJ6 : u_T := fun k => match k with
  | _ => ("", "", "", false)
def tyJ6 : Nat → FieldType := fun k => match k with
  | _ => .int
abbrev wsJ60 : List Cond := u_ws RJ6 TJ6 0
theorem nmJ6 : ∀ a, a < 0 → ∀ b, b < 0 → a ≠ b → (TJ6 a).2.1 ≠ (TJ6 b).2.1 := by decide +kernel
theorem tyJ6_ok : ∀ k, k < 0 → parseFieldDescriptor (TJ6 k).2.2.1 = some (tyJ6 k) := by decide +kernel
abbrev cJ6_bitCount_0f7a4 : ByteArray := prog_6_method_49_code
def yJ6_bitCount_0f7a4 : MethodName := ⟨RJ6, "bitCount", "(I)I"⟩
def RJ9 : String := "java/lang/Math"
def TJ9 : u_T := fun k => match k with
  | _ => ("", "", "", false)
def tyJ9 : Nat → FieldType := fun k => match k with
  | _ => .int
abbrev wsJ90 : List Cond := u_ws RJ9 TJ9 0
theorem nmJ9 : ∀ a, a < 0 → ∀ b, b < 0 → a ≠ b → (TJ9 a).2.1 ≠ (TJ9 b).2.1 := by decide +kernel
theorem tyJ9_ok : ∀ k, k < 0 → parseFieldDescriptor (TJ9 k).2.2.1 = some (tyJ9 k) := by decide +kernel
abbrev cJ9_max_7cf53 : ByteArray := prog_7_method_65_code
def yJ9_max_7cf53 : MethodName := ⟨RJ9, "max", "(II)I"⟩
def RL : String := "GroupSeatsLaw"
abbrev cL_law : ByteArray := code
def yL_law : MethodName := ⟨RL, "law", "([I)Z"⟩
def wsX0_init : List Cond := .code yX0_init cX0_init 1 none :: ([.methodLink RX0 3 objectInit, .instanceMethod objectInit, .code objectInit ⟨#[0xb1]⟩ 1 none, .arrayClass .int, .fieldLink RX0 9 "GroupSeats$Party" "numbers" "[I"] ++ wsX00)
def wsX1_init : List Cond := .code yX1_init cX1_init 1 none :: ([.methodLink RX1 3 objectInit, .instanceMethod objectInit, .code objectInit ⟨#[0xb1]⟩ 1 none, .arrayClass .int, .fieldLink RX1 9 "GroupSeats$Row" "owners" "[I"] ++ wsX10)
def wsX1_isOpen : List Cond := .code yX1_isOpen cX1_isOpen 1 (some .boolean) :: ([.fieldLink RX1 15 "GroupSeats$Row" "size" "I"] ++ wsX10)
def wsX1_begin : List Cond := .code yX1_begin cX1_begin 3 none :: ([.fieldLink RX1 15 "GroupSeats$Row" "size" "I", .fieldLink RX1 19 "GroupSeats$Row" "sideBySide" "Z", .fieldLink RX1 23 "GroupSeats$Row" "backs" "I", .fieldLink RX1 9 "GroupSeats$Row" "owners" "[I"] ++ wsX10)
def wsX1_seatsOf : List Cond := .code yX1_seatsOf cX1_seatsOf 4 (some .int) :: ([.fieldLink RX1 15 "GroupSeats$Row" "size" "I", .fieldLink RX1 9 "GroupSeats$Row" "owners" "[I"] ++ wsX10)
def wsX1_freeSeatsOf : List Cond := .code yX1_freeSeatsOf cX1_freeSeatsOf 3 none :: ([.fieldLink RX1 15 "GroupSeats$Row" "size" "I", .fieldLink RX1 9 "GroupSeats$Row" "owners" "[I"] ++ wsX10)
def wsX1_bestStretch : List Cond := .code yX1_bestStretch cX1_bestStretch 6 (some .int) :: ([.fieldLink RX1 15 "GroupSeats$Row" "size" "I", .fieldLink RX1 9 "GroupSeats$Row" "owners" "[I"] ++ wsX10)
def wsX1_take : List Cond := .code yX1_take cX1_take 7 (some .int) :: ([.fieldLink RX1 19 "GroupSeats$Row" "sideBySide" "Z", .fieldLink RX1 15 "GroupSeats$Row" "size" "I", .fieldLink RX1 9 "GroupSeats$Row" "owners" "[I", .methodLink RX1 26 yX1_bestStretch, .instanceMethod yX1_bestStretch, .selects RX1 yX1_bestStretch yX1_bestStretch, .initialized RX1, .code yX1_bestStretch cX1_bestStretch 6 (some .int)] ++ wsX10)
def wsX1_giveBack : List Cond := .code yX1_giveBack cX1_giveBack 3 none :: ([.fieldLink RX1 23 "GroupSeats$Row" "backs" "I", .fieldLink RX1 15 "GroupSeats$Row" "size" "I", .fieldLink RX1 9 "GroupSeats$Row" "owners" "[I"] ++ wsX10)
def wsX2_init : List Cond := .code yX2_init cX2_init 2 none :: ([.methodLink RX2 1 objectInit, .instanceMethod objectInit, .code objectInit ⟨#[0xb1]⟩ 1 none, .classLink RX2 9 RX1, .fieldLink RX2 11 "GroupSeats" "rows" "[LGroupSeats$Row;", .arrayClass .boolean, .fieldLink RX2 15 "GroupSeats" "cancelled" "[Z", .classLink RX2 19 RX0, .fieldLink RX2 21 "GroupSeats" "queue" "[LGroupSeats$Party;", .instantiable RX0 4, .initialized RX0, .fieldLink RX2 26 "GroupSeats" "coming" "LGroupSeats$Party;", .instantiable RX1 5, .initialized RX1, .instanceMethod yX0_init, .code yX0_init cX0_init 1 none, .methodLink RX0 3 objectInit, .arrayClass .int, .fieldLink RX0 9 "GroupSeats$Party" "numbers" "[I", .instanceMethod yX1_init, .code yX1_init cX1_init 1 none, .methodLink RX1 3 objectInit, .fieldLink RX1 9 "GroupSeats$Row" "owners" "[I"] ++ wsX20 ++ wsX00 ++ wsX10)
def wsX2_isRow : List Cond := .code yX2_isRow cX2_isRow 1 (some .boolean) :: ([])
def wsX2_obstacleAt : List Cond := .code yX2_obstacleAt cX2_obstacleAt 4 (some .int) :: ([.fieldLink RX2 59 "GroupSeats$Party" "listed" "I", .fieldLink RX2 62 "GroupSeats$Party" "numbers" "[I", .fieldLink RX2 11 "GroupSeats" "rows" "[LGroupSeats$Row;", .methodLink RX2 31 yX2_isRow, .static yX2_isRow, .initialized RX2, .code yX2_isRow cX2_isRow 1 (some .boolean), .methodLink RX2 35 yX1_isOpen, .instanceMethod yX1_isOpen, .selects RX1 yX1_isOpen yX1_isOpen, .initialized RX1, .code yX1_isOpen cX1_isOpen 1 (some .boolean), .fieldLink RX1 15 "GroupSeats$Row" "size" "I"] ++ wsX00 ++ wsX20 ++ wsX10)
def wsJ6_bitCount_0f7a4 : List Cond := .code yJ6_bitCount_0f7a4 cJ6_bitCount_0f7a4 1 (some .int) :: ([.constant RJ6 265 (1431655765), .constant RJ6 266 (858993459), .constant RJ6 267 (252645135)])
def wsX2_goOn_r1 : List Cond := [Cond.fieldLink RX2 70 "GroupSeats$Party" "mode" "I", Cond.fieldLink RX2 69 "GroupSeats$Party" "size" "I", Cond.fieldLink RX2 11 "GroupSeats" "rows" "[LGroupSeats$Row;", Cond.fieldLink RX2 62 "GroupSeats$Party" "numbers" "[I", Cond.fieldLink RX2 95 "GroupSeats$Row" "holds" "I", Cond.fieldLink RX2 101 "GroupSeats" "mostHeld" "I", Cond.methodLink RX2 118 Lib.Math.max.name, Cond.static Lib.Math.max.name, Cond.initialized "java/lang/Math", Cond.code Lib.Math.max.name Lib.Math.max.code 2 (some .int), Cond.fieldLink RX2 66 "GroupSeats" "bookings" "I", Cond.methodLink RX2 114 yX2_obstacleAt, Cond.instanceMethod yX2_obstacleAt, Cond.selects RX2 yX2_obstacleAt yX2_obstacleAt, Cond.initialized RX2, Cond.code yX2_obstacleAt cX2_obstacleAt 4 (some .int), Cond.fieldLink RX2 59 "GroupSeats$Party" "listed" "I", Cond.methodLink RX2 31 yX2_isRow, Cond.static yX2_isRow, Cond.code yX2_isRow cX2_isRow 1 (some .boolean), Cond.methodLink RX2 35 yX1_isOpen, Cond.instanceMethod yX1_isOpen, Cond.selects RX1 yX1_isOpen yX1_isOpen, Cond.initialized RX1]
def wsX2_goOn_r2 : List Cond := [Cond.code yX1_isOpen cX1_isOpen 1 (some .boolean), Cond.fieldLink RX1 15 "GroupSeats$Row" "size" "I", Cond.methodLink RX2 124 yX1_take, Cond.instanceMethod yX1_take, Cond.selects RX1 yX1_take yX1_take, Cond.code yX1_take cX1_take 7 (some .int), Cond.fieldLink RX1 19 "GroupSeats$Row" "sideBySide" "Z", Cond.fieldLink RX1 9 "GroupSeats$Row" "owners" "[I", Cond.methodLink RX1 26 yX1_bestStretch, Cond.instanceMethod yX1_bestStretch, Cond.selects RX1 yX1_bestStretch yX1_bestStretch, Cond.code yX1_bestStretch cX1_bestStretch 6 (some .int), Cond.methodLink RX2 127 yJ6_bitCount_0f7a4, Cond.static yJ6_bitCount_0f7a4, Cond.initialized RJ6, Cond.code yJ6_bitCount_0f7a4 cJ6_bitCount_0f7a4 1 (some .int), Cond.constant RJ6 265 (1431655765), Cond.constant RJ6 266 (858993459), Cond.constant RJ6 267 (252645135), Cond.methodLink RX2 110 yX2_goOn, Cond.instanceMethod yX2_goOn, Cond.selects RX2 yX2_goOn yX2_goOn, Cond.methodLink RX2 132 yX1_giveBack, Cond.instanceMethod yX1_giveBack]
def wsX2_goOn_r3 : List Cond := [Cond.selects RX1 yX1_giveBack yX1_giveBack, Cond.code yX1_giveBack cX1_giveBack 3 none, Cond.fieldLink RX1 23 "GroupSeats$Row" "backs" "I"]
def wsX2_goOn : List Cond := .code yX2_goOn cX2_goOn 8 (some .int) :: ((wsX2_goOn_r1 ++ (wsX2_goOn_r2 ++ wsX2_goOn_r3)) ++ wsX00 ++ wsX20 ++ wsX10)
def wsX2_goThrough_r1 : List Cond := [Cond.fieldLink RX2 69 "GroupSeats$Party" "size" "I", Cond.fieldLink RX2 104 "GroupSeats" "failures" "I", Cond.fieldLink RX2 66 "GroupSeats" "bookings" "I", Cond.methodLink RX2 110 yX2_goOn, Cond.instanceMethod yX2_goOn, Cond.selects RX2 yX2_goOn yX2_goOn, Cond.initialized RX2, Cond.code yX2_goOn cX2_goOn 8 (some .int), Cond.fieldLink RX2 70 "GroupSeats$Party" "mode" "I", Cond.fieldLink RX2 11 "GroupSeats" "rows" "[LGroupSeats$Row;", Cond.fieldLink RX2 62 "GroupSeats$Party" "numbers" "[I", Cond.fieldLink RX2 95 "GroupSeats$Row" "holds" "I", Cond.fieldLink RX2 101 "GroupSeats" "mostHeld" "I", Cond.methodLink RX2 118 Lib.Math.max.name, Cond.static Lib.Math.max.name, Cond.initialized "java/lang/Math", Cond.code Lib.Math.max.name Lib.Math.max.code 2 (some .int), Cond.methodLink RX2 114 yX2_obstacleAt, Cond.instanceMethod yX2_obstacleAt, Cond.selects RX2 yX2_obstacleAt yX2_obstacleAt, Cond.code yX2_obstacleAt cX2_obstacleAt 4 (some .int), Cond.fieldLink RX2 59 "GroupSeats$Party" "listed" "I", Cond.methodLink RX2 31 yX2_isRow, Cond.static yX2_isRow]
def wsX2_goThrough_r2 : List Cond := [Cond.code yX2_isRow cX2_isRow 1 (some .boolean), Cond.methodLink RX2 35 yX1_isOpen, Cond.instanceMethod yX1_isOpen, Cond.selects RX1 yX1_isOpen yX1_isOpen, Cond.initialized RX1, Cond.code yX1_isOpen cX1_isOpen 1 (some .boolean), Cond.fieldLink RX1 15 "GroupSeats$Row" "size" "I", Cond.methodLink RX2 124 yX1_take, Cond.instanceMethod yX1_take, Cond.selects RX1 yX1_take yX1_take, Cond.code yX1_take cX1_take 7 (some .int), Cond.fieldLink RX1 19 "GroupSeats$Row" "sideBySide" "Z", Cond.fieldLink RX1 9 "GroupSeats$Row" "owners" "[I", Cond.methodLink RX1 26 yX1_bestStretch, Cond.instanceMethod yX1_bestStretch, Cond.selects RX1 yX1_bestStretch yX1_bestStretch, Cond.code yX1_bestStretch cX1_bestStretch 6 (some .int), Cond.methodLink RX2 127 yJ6_bitCount_0f7a4, Cond.static yJ6_bitCount_0f7a4, Cond.initialized RJ6, Cond.code yJ6_bitCount_0f7a4 cJ6_bitCount_0f7a4 1 (some .int), Cond.constant RJ6 265 (1431655765), Cond.constant RJ6 266 (858993459), Cond.constant RJ6 267 (252645135)]
def wsX2_goThrough_r3 : List Cond := [Cond.methodLink RX2 132 yX1_giveBack, Cond.instanceMethod yX1_giveBack, Cond.selects RX1 yX1_giveBack yX1_giveBack, Cond.code yX1_giveBack cX1_giveBack 3 none, Cond.fieldLink RX1 23 "GroupSeats$Row" "backs" "I"]
def wsX2_goThrough : List Cond := .code yX2_goThrough cX2_goThrough 4 (some .int) :: ((wsX2_goThrough_r1 ++ (wsX2_goThrough_r2 ++ wsX2_goThrough_r3)) ++ wsX00 ++ wsX20 ++ wsX10)
def wsX2_tryThoseWaiting_r1 : List Cond := [Cond.fieldLink RX2 77 "GroupSeats" "waiters" "I", Cond.fieldLink RX2 21 "GroupSeats" "queue" "[LGroupSeats$Party;", Cond.fieldLink RX2 66 "GroupSeats" "bookings" "I", Cond.methodLink RX2 73 yX2_goThrough, Cond.instanceMethod yX2_goThrough, Cond.selects RX2 yX2_goThrough yX2_goThrough, Cond.initialized RX2, Cond.code yX2_goThrough cX2_goThrough 4 (some .int), Cond.fieldLink RX2 69 "GroupSeats$Party" "size" "I", Cond.fieldLink RX2 104 "GroupSeats" "failures" "I", Cond.methodLink RX2 110 yX2_goOn, Cond.instanceMethod yX2_goOn, Cond.selects RX2 yX2_goOn yX2_goOn, Cond.code yX2_goOn cX2_goOn 8 (some .int), Cond.fieldLink RX2 70 "GroupSeats$Party" "mode" "I", Cond.fieldLink RX2 11 "GroupSeats" "rows" "[LGroupSeats$Row;", Cond.fieldLink RX2 62 "GroupSeats$Party" "numbers" "[I", Cond.fieldLink RX2 95 "GroupSeats$Row" "holds" "I", Cond.fieldLink RX2 101 "GroupSeats" "mostHeld" "I", Cond.methodLink RX2 118 Lib.Math.max.name, Cond.static Lib.Math.max.name, Cond.initialized "java/lang/Math", Cond.code Lib.Math.max.name Lib.Math.max.code 2 (some .int), Cond.methodLink RX2 114 yX2_obstacleAt]
def wsX2_tryThoseWaiting_r2 : List Cond := [Cond.instanceMethod yX2_obstacleAt, Cond.selects RX2 yX2_obstacleAt yX2_obstacleAt, Cond.code yX2_obstacleAt cX2_obstacleAt 4 (some .int), Cond.fieldLink RX2 59 "GroupSeats$Party" "listed" "I", Cond.methodLink RX2 31 yX2_isRow, Cond.static yX2_isRow, Cond.code yX2_isRow cX2_isRow 1 (some .boolean), Cond.methodLink RX2 35 yX1_isOpen, Cond.instanceMethod yX1_isOpen, Cond.selects RX1 yX1_isOpen yX1_isOpen, Cond.initialized RX1, Cond.code yX1_isOpen cX1_isOpen 1 (some .boolean), Cond.fieldLink RX1 15 "GroupSeats$Row" "size" "I", Cond.methodLink RX2 124 yX1_take, Cond.instanceMethod yX1_take, Cond.selects RX1 yX1_take yX1_take, Cond.code yX1_take cX1_take 7 (some .int), Cond.fieldLink RX1 19 "GroupSeats$Row" "sideBySide" "Z", Cond.fieldLink RX1 9 "GroupSeats$Row" "owners" "[I", Cond.methodLink RX1 26 yX1_bestStretch, Cond.instanceMethod yX1_bestStretch, Cond.selects RX1 yX1_bestStretch yX1_bestStretch, Cond.code yX1_bestStretch cX1_bestStretch 6 (some .int), Cond.methodLink RX2 127 yJ6_bitCount_0f7a4]
def wsX2_tryThoseWaiting_r3 : List Cond := [Cond.static yJ6_bitCount_0f7a4, Cond.initialized RJ6, Cond.code yJ6_bitCount_0f7a4 cJ6_bitCount_0f7a4 1 (some .int), Cond.constant RJ6 265 (1431655765), Cond.constant RJ6 266 (858993459), Cond.constant RJ6 267 (252645135), Cond.methodLink RX2 132 yX1_giveBack, Cond.instanceMethod yX1_giveBack, Cond.selects RX1 yX1_giveBack yX1_giveBack, Cond.code yX1_giveBack cX1_giveBack 3 none, Cond.fieldLink RX1 23 "GroupSeats$Row" "backs" "I"]
def wsX2_tryThoseWaiting : List Cond := .code yX2_tryThoseWaiting cX2_tryThoseWaiting 5 (some .int) :: ((wsX2_tryThoseWaiting_r1 ++ (wsX2_tryThoseWaiting_r2 ++ wsX2_tryThoseWaiting_r3)) ++ wsX20 ++ wsX00 ++ wsX10)
def wsX2_open_r1 : List Cond := [Cond.fieldLink RX2 11 "GroupSeats" "rows" "[LGroupSeats$Row;", Cond.methodLink RX2 31 yX2_isRow, Cond.static yX2_isRow, Cond.initialized RX2, Cond.code yX2_isRow cX2_isRow 1 (some .boolean), Cond.methodLink RX2 35 yX1_isOpen, Cond.instanceMethod yX1_isOpen, Cond.selects RX1 yX1_isOpen yX1_isOpen, Cond.initialized RX1, Cond.code yX1_isOpen cX1_isOpen 1 (some .boolean), Cond.fieldLink RX1 15 "GroupSeats$Row" "size" "I", Cond.methodLink RX2 39 yX1_begin, Cond.instanceMethod yX1_begin, Cond.selects RX1 yX1_begin yX1_begin, Cond.code yX1_begin cX1_begin 3 none, Cond.fieldLink RX1 19 "GroupSeats$Row" "sideBySide" "Z", Cond.fieldLink RX1 23 "GroupSeats$Row" "backs" "I", Cond.fieldLink RX1 9 "GroupSeats$Row" "owners" "[I", Cond.methodLink RX2 43 yX2_tryThoseWaiting, Cond.instanceMethod yX2_tryThoseWaiting, Cond.selects RX2 yX2_tryThoseWaiting yX2_tryThoseWaiting, Cond.code yX2_tryThoseWaiting cX2_tryThoseWaiting 5 (some .int), Cond.fieldLink RX2 77 "GroupSeats" "waiters" "I", Cond.fieldLink RX2 21 "GroupSeats" "queue" "[LGroupSeats$Party;"]
def wsX2_open_r2 : List Cond := [Cond.fieldLink RX2 66 "GroupSeats" "bookings" "I", Cond.methodLink RX2 73 yX2_goThrough, Cond.instanceMethod yX2_goThrough, Cond.selects RX2 yX2_goThrough yX2_goThrough, Cond.code yX2_goThrough cX2_goThrough 4 (some .int), Cond.fieldLink RX2 69 "GroupSeats$Party" "size" "I", Cond.fieldLink RX2 104 "GroupSeats" "failures" "I", Cond.methodLink RX2 110 yX2_goOn, Cond.instanceMethod yX2_goOn, Cond.selects RX2 yX2_goOn yX2_goOn, Cond.code yX2_goOn cX2_goOn 8 (some .int), Cond.fieldLink RX2 70 "GroupSeats$Party" "mode" "I", Cond.fieldLink RX2 62 "GroupSeats$Party" "numbers" "[I", Cond.fieldLink RX2 95 "GroupSeats$Row" "holds" "I", Cond.fieldLink RX2 101 "GroupSeats" "mostHeld" "I", Cond.methodLink RX2 118 Lib.Math.max.name, Cond.static Lib.Math.max.name, Cond.initialized "java/lang/Math", Cond.code Lib.Math.max.name Lib.Math.max.code 2 (some .int), Cond.methodLink RX2 114 yX2_obstacleAt, Cond.instanceMethod yX2_obstacleAt, Cond.selects RX2 yX2_obstacleAt yX2_obstacleAt, Cond.code yX2_obstacleAt cX2_obstacleAt 4 (some .int), Cond.fieldLink RX2 59 "GroupSeats$Party" "listed" "I"]
def wsX2_open_r3 : List Cond := [Cond.methodLink RX2 124 yX1_take, Cond.instanceMethod yX1_take, Cond.selects RX1 yX1_take yX1_take, Cond.code yX1_take cX1_take 7 (some .int), Cond.methodLink RX1 26 yX1_bestStretch, Cond.instanceMethod yX1_bestStretch, Cond.selects RX1 yX1_bestStretch yX1_bestStretch, Cond.code yX1_bestStretch cX1_bestStretch 6 (some .int), Cond.methodLink RX2 127 yJ6_bitCount_0f7a4, Cond.static yJ6_bitCount_0f7a4, Cond.initialized RJ6, Cond.code yJ6_bitCount_0f7a4 cJ6_bitCount_0f7a4 1 (some .int), Cond.constant RJ6 265 (1431655765), Cond.constant RJ6 266 (858993459), Cond.constant RJ6 267 (252645135), Cond.methodLink RX2 132 yX1_giveBack, Cond.instanceMethod yX1_giveBack, Cond.selects RX1 yX1_giveBack yX1_giveBack, Cond.code yX1_giveBack cX1_giveBack 3 none]
def wsX2_open : List Cond := .code yX2_open cX2_open 3 (some .int) :: ((wsX2_open_r1 ++ (wsX2_open_r2 ++ wsX2_open_r3)) ++ wsX20 ++ wsX10 ++ wsX00)
def wsX2_shut : List Cond := .code yX2_shut cX2_shut 4 (some .int) :: ([.fieldLink RX2 11 "GroupSeats" "rows" "[LGroupSeats$Row;", .fieldLink RX2 51 "GroupSeats$Row" "size" "I", .methodLink RX2 31 yX2_isRow, .static yX2_isRow, .initialized RX2, .code yX2_isRow cX2_isRow 1 (some .boolean), .methodLink RX2 35 yX1_isOpen, .instanceMethod yX1_isOpen, .selects RX1 yX1_isOpen yX1_isOpen, .initialized RX1, .code yX1_isOpen cX1_isOpen 1 (some .boolean), .fieldLink RX1 15 "GroupSeats$Row" "size" "I", .methodLink RX2 47 yX1_seatsOf, .instanceMethod yX1_seatsOf, .selects RX1 yX1_seatsOf yX1_seatsOf, .code yX1_seatsOf cX1_seatsOf 4 (some .int), .fieldLink RX1 9 "GroupSeats$Row" "owners" "[I"] ++ wsX20 ++ wsX10)
def wsX2_strict : List Cond := .code yX2_strict cX2_strict 4 (some .int) :: ([.fieldLink RX2 11 "GroupSeats" "rows" "[LGroupSeats$Row;", .fieldLink RX2 55 "GroupSeats$Row" "sideBySide" "Z", .methodLink RX2 31 yX2_isRow, .static yX2_isRow, .initialized RX2, .code yX2_isRow cX2_isRow 1 (some .boolean), .methodLink RX2 35 yX1_isOpen, .instanceMethod yX1_isOpen, .selects RX1 yX1_isOpen yX1_isOpen, .initialized RX1, .code yX1_isOpen cX1_isOpen 1 (some .boolean), .fieldLink RX1 15 "GroupSeats$Row" "size" "I"] ++ wsX20 ++ wsX10)
def wsX2_list : List Cond := .code yX2_list cX2_list 2 (some .int) :: ([.fieldLink RX2 26 "GroupSeats" "coming" "LGroupSeats$Party;", .fieldLink RX2 59 "GroupSeats$Party" "listed" "I", .fieldLink RX2 62 "GroupSeats$Party" "numbers" "[I"] ++ wsX20 ++ wsX00)
def wsX2_queueUp : List Cond := .code yX2_queueUp cX2_queueUp 2 none :: ([.fieldLink RX2 21 "GroupSeats" "queue" "[LGroupSeats$Party;", .fieldLink RX2 77 "GroupSeats" "waiters" "I", .fieldLink RX2 26 "GroupSeats" "coming" "LGroupSeats$Party;"] ++ wsX20)
def wsX2_book_r1 : List Cond := [Cond.fieldLink RX2 26 "GroupSeats" "coming" "LGroupSeats$Party;", Cond.fieldLink RX2 59 "GroupSeats$Party" "listed" "I", Cond.fieldLink RX2 66 "GroupSeats" "bookings" "I", Cond.fieldLink RX2 69 "GroupSeats$Party" "size" "I", Cond.fieldLink RX2 70 "GroupSeats$Party" "mode" "I", Cond.fieldLink RX2 77 "GroupSeats" "waiters" "I", Cond.methodLink RX2 73 yX2_goThrough, Cond.instanceMethod yX2_goThrough, Cond.selects RX2 yX2_goThrough yX2_goThrough, Cond.initialized RX2, Cond.code yX2_goThrough cX2_goThrough 4 (some .int), Cond.fieldLink RX2 104 "GroupSeats" "failures" "I", Cond.methodLink RX2 110 yX2_goOn, Cond.instanceMethod yX2_goOn, Cond.selects RX2 yX2_goOn yX2_goOn, Cond.code yX2_goOn cX2_goOn 8 (some .int), Cond.fieldLink RX2 11 "GroupSeats" "rows" "[LGroupSeats$Row;", Cond.fieldLink RX2 62 "GroupSeats$Party" "numbers" "[I", Cond.fieldLink RX2 95 "GroupSeats$Row" "holds" "I", Cond.fieldLink RX2 101 "GroupSeats" "mostHeld" "I", Cond.methodLink RX2 118 Lib.Math.max.name, Cond.static Lib.Math.max.name, Cond.initialized "java/lang/Math", Cond.code Lib.Math.max.name Lib.Math.max.code 2 (some .int)]
def wsX2_book_r2 : List Cond := [Cond.methodLink RX2 114 yX2_obstacleAt, Cond.instanceMethod yX2_obstacleAt, Cond.selects RX2 yX2_obstacleAt yX2_obstacleAt, Cond.code yX2_obstacleAt cX2_obstacleAt 4 (some .int), Cond.methodLink RX2 31 yX2_isRow, Cond.static yX2_isRow, Cond.code yX2_isRow cX2_isRow 1 (some .boolean), Cond.methodLink RX2 35 yX1_isOpen, Cond.instanceMethod yX1_isOpen, Cond.selects RX1 yX1_isOpen yX1_isOpen, Cond.initialized RX1, Cond.code yX1_isOpen cX1_isOpen 1 (some .boolean), Cond.fieldLink RX1 15 "GroupSeats$Row" "size" "I", Cond.methodLink RX2 124 yX1_take, Cond.instanceMethod yX1_take, Cond.selects RX1 yX1_take yX1_take, Cond.code yX1_take cX1_take 7 (some .int), Cond.fieldLink RX1 19 "GroupSeats$Row" "sideBySide" "Z", Cond.fieldLink RX1 9 "GroupSeats$Row" "owners" "[I", Cond.methodLink RX1 26 yX1_bestStretch, Cond.instanceMethod yX1_bestStretch, Cond.selects RX1 yX1_bestStretch yX1_bestStretch, Cond.code yX1_bestStretch cX1_bestStretch 6 (some .int), Cond.methodLink RX2 127 yJ6_bitCount_0f7a4]
def wsX2_book_r3 : List Cond := [Cond.static yJ6_bitCount_0f7a4, Cond.initialized RJ6, Cond.code yJ6_bitCount_0f7a4 cJ6_bitCount_0f7a4 1 (some .int), Cond.constant RJ6 265 (1431655765), Cond.constant RJ6 266 (858993459), Cond.constant RJ6 267 (252645135), Cond.methodLink RX2 132 yX1_giveBack, Cond.instanceMethod yX1_giveBack, Cond.selects RX1 yX1_giveBack yX1_giveBack, Cond.code yX1_giveBack cX1_giveBack 3 none, Cond.fieldLink RX1 23 "GroupSeats$Row" "backs" "I", Cond.methodLink RX2 80 yX2_queueUp, Cond.instanceMethod yX2_queueUp, Cond.selects RX2 yX2_queueUp yX2_queueUp, Cond.code yX2_queueUp cX2_queueUp 2 none, Cond.fieldLink RX2 21 "GroupSeats" "queue" "[LGroupSeats$Party;"]
def wsX2_book : List Cond := .code yX2_book cX2_book 4 (some .int) :: ((wsX2_book_r1 ++ (wsX2_book_r2 ++ wsX2_book_r3)) ++ wsX20 ++ wsX00 ++ wsX10)
def wsX2_isBooking : List Cond := .code yX2_isBooking cX2_isBooking 2 (some .boolean) :: ([.fieldLink RX2 66 "GroupSeats" "bookings" "I"] ++ wsX20)
def wsX2_cancel_r1 : List Cond := [Cond.fieldLink RX2 15 "GroupSeats" "cancelled" "[Z", Cond.fieldLink RX2 11 "GroupSeats" "rows" "[LGroupSeats$Row;", Cond.methodLink RX2 83 yX2_isBooking, Cond.instanceMethod yX2_isBooking, Cond.selects RX2 yX2_isBooking yX2_isBooking, Cond.initialized RX2, Cond.code yX2_isBooking cX2_isBooking 2 (some .boolean), Cond.fieldLink RX2 66 "GroupSeats" "bookings" "I", Cond.methodLink RX2 86 yX1_freeSeatsOf, Cond.instanceMethod yX1_freeSeatsOf, Cond.selects RX1 yX1_freeSeatsOf yX1_freeSeatsOf, Cond.initialized RX1, Cond.code yX1_freeSeatsOf cX1_freeSeatsOf 3 none, Cond.fieldLink RX1 15 "GroupSeats$Row" "size" "I", Cond.fieldLink RX1 9 "GroupSeats$Row" "owners" "[I", Cond.methodLink RX2 43 yX2_tryThoseWaiting, Cond.instanceMethod yX2_tryThoseWaiting, Cond.selects RX2 yX2_tryThoseWaiting yX2_tryThoseWaiting, Cond.code yX2_tryThoseWaiting cX2_tryThoseWaiting 5 (some .int), Cond.fieldLink RX2 77 "GroupSeats" "waiters" "I", Cond.fieldLink RX2 21 "GroupSeats" "queue" "[LGroupSeats$Party;", Cond.methodLink RX2 73 yX2_goThrough, Cond.instanceMethod yX2_goThrough, Cond.selects RX2 yX2_goThrough yX2_goThrough]
def wsX2_cancel_r2 : List Cond := [Cond.code yX2_goThrough cX2_goThrough 4 (some .int), Cond.fieldLink RX2 69 "GroupSeats$Party" "size" "I", Cond.fieldLink RX2 104 "GroupSeats" "failures" "I", Cond.methodLink RX2 110 yX2_goOn, Cond.instanceMethod yX2_goOn, Cond.selects RX2 yX2_goOn yX2_goOn, Cond.code yX2_goOn cX2_goOn 8 (some .int), Cond.fieldLink RX2 70 "GroupSeats$Party" "mode" "I", Cond.fieldLink RX2 62 "GroupSeats$Party" "numbers" "[I", Cond.fieldLink RX2 95 "GroupSeats$Row" "holds" "I", Cond.fieldLink RX2 101 "GroupSeats" "mostHeld" "I", Cond.methodLink RX2 118 Lib.Math.max.name, Cond.static Lib.Math.max.name, Cond.initialized "java/lang/Math", Cond.code Lib.Math.max.name Lib.Math.max.code 2 (some .int), Cond.methodLink RX2 114 yX2_obstacleAt, Cond.instanceMethod yX2_obstacleAt, Cond.selects RX2 yX2_obstacleAt yX2_obstacleAt, Cond.code yX2_obstacleAt cX2_obstacleAt 4 (some .int), Cond.fieldLink RX2 59 "GroupSeats$Party" "listed" "I", Cond.methodLink RX2 31 yX2_isRow, Cond.static yX2_isRow, Cond.code yX2_isRow cX2_isRow 1 (some .boolean), Cond.methodLink RX2 35 yX1_isOpen]
def wsX2_cancel_r3 : List Cond := [Cond.instanceMethod yX1_isOpen, Cond.selects RX1 yX1_isOpen yX1_isOpen, Cond.code yX1_isOpen cX1_isOpen 1 (some .boolean), Cond.methodLink RX2 124 yX1_take, Cond.instanceMethod yX1_take, Cond.selects RX1 yX1_take yX1_take, Cond.code yX1_take cX1_take 7 (some .int), Cond.fieldLink RX1 19 "GroupSeats$Row" "sideBySide" "Z", Cond.methodLink RX1 26 yX1_bestStretch, Cond.instanceMethod yX1_bestStretch, Cond.selects RX1 yX1_bestStretch yX1_bestStretch, Cond.code yX1_bestStretch cX1_bestStretch 6 (some .int), Cond.methodLink RX2 127 yJ6_bitCount_0f7a4, Cond.static yJ6_bitCount_0f7a4, Cond.initialized RJ6, Cond.code yJ6_bitCount_0f7a4 cJ6_bitCount_0f7a4 1 (some .int), Cond.constant RJ6 265 (1431655765), Cond.constant RJ6 266 (858993459), Cond.constant RJ6 267 (252645135), Cond.methodLink RX2 132 yX1_giveBack, Cond.instanceMethod yX1_giveBack, Cond.selects RX1 yX1_giveBack yX1_giveBack, Cond.code yX1_giveBack cX1_giveBack 3 none, Cond.fieldLink RX1 23 "GroupSeats$Row" "backs" "I"]
def wsX2_cancel : List Cond := .code yX2_cancel cX2_cancel 3 (some .int) :: ((wsX2_cancel_r1 ++ (wsX2_cancel_r2 ++ wsX2_cancel_r3)) ++ wsX20 ++ wsX10 ++ wsX00)
def wsX2_isWaiting : List Cond := .code yX2_isWaiting cX2_isWaiting 2 (some .boolean) :: ([.fieldLink RX2 77 "GroupSeats" "waiters" "I"] ++ wsX20)
def wsX2_leave : List Cond := .code yX2_leave cX2_leave 4 (some .int) :: ([.fieldLink RX2 21 "GroupSeats" "queue" "[LGroupSeats$Party;", .fieldLink RX2 77 "GroupSeats" "waiters" "I", .fieldLink RX2 69 "GroupSeats$Party" "size" "I", .methodLink RX2 89 yX2_isWaiting, .instanceMethod yX2_isWaiting, .selects RX2 yX2_isWaiting yX2_isWaiting, .initialized RX2, .code yX2_isWaiting cX2_isWaiting 2 (some .boolean)] ++ wsX20 ++ wsX00)
def wsX2_seat : List Cond := .code yX2_seat cX2_seat 3 (some .int) :: ([.fieldLink RX2 11 "GroupSeats" "rows" "[LGroupSeats$Row;", .fieldLink RX2 51 "GroupSeats$Row" "size" "I", .fieldLink RX2 92 "GroupSeats$Row" "owners" "[I", .methodLink RX2 31 yX2_isRow, .static yX2_isRow, .initialized RX2, .code yX2_isRow cX2_isRow 1 (some .boolean)] ++ wsX20 ++ wsX10)
def wsX2_has : List Cond := .code yX2_has cX2_has 3 (some .int) :: ([.fieldLink RX2 11 "GroupSeats" "rows" "[LGroupSeats$Row;", .methodLink RX2 83 yX2_isBooking, .instanceMethod yX2_isBooking, .selects RX2 yX2_isBooking yX2_isBooking, .initialized RX2, .code yX2_isBooking cX2_isBooking 2 (some .boolean), .fieldLink RX2 66 "GroupSeats" "bookings" "I", .methodLink RX2 31 yX2_isRow, .static yX2_isRow, .code yX2_isRow cX2_isRow 1 (some .boolean), .methodLink RX2 47 yX1_seatsOf, .instanceMethod yX1_seatsOf, .selects RX1 yX1_seatsOf yX1_seatsOf, .initialized RX1, .code yX1_seatsOf cX1_seatsOf 4 (some .int), .fieldLink RX1 15 "GroupSeats$Row" "size" "I", .fieldLink RX1 9 "GroupSeats$Row" "owners" "[I"] ++ wsX20 ++ wsX10)
def wsX2_about : List Cond := .code yX2_about cX2_about 4 (some .int) :: ([.fieldLink RX2 11 "GroupSeats" "rows" "[LGroupSeats$Row;", .fieldLink RX2 95 "GroupSeats$Row" "holds" "I", .fieldLink RX2 98 "GroupSeats$Row" "backs" "I", .fieldLink RX2 51 "GroupSeats$Row" "size" "I", .methodLink RX2 31 yX2_isRow, .static yX2_isRow, .initialized RX2, .code yX2_isRow cX2_isRow 1 (some .boolean), .methodLink RX2 35 yX1_isOpen, .instanceMethod yX1_isOpen, .selects RX1 yX1_isOpen yX1_isOpen, .initialized RX1, .code yX1_isOpen cX1_isOpen 1 (some .boolean), .fieldLink RX1 15 "GroupSeats$Row" "size" "I", .methodLink RX2 47 yX1_seatsOf, .instanceMethod yX1_seatsOf, .selects RX1 yX1_seatsOf yX1_seatsOf, .code yX1_seatsOf cX1_seatsOf 4 (some .int), .fieldLink RX1 9 "GroupSeats$Row" "owners" "[I"] ++ wsX20 ++ wsX10)
def wsX2_openRows : List Cond := .code yX2_openRows cX2_openRows 3 (some .int) :: ([.fieldLink RX2 11 "GroupSeats" "rows" "[LGroupSeats$Row;", .methodLink RX2 35 yX1_isOpen, .instanceMethod yX1_isOpen, .selects RX1 yX1_isOpen yX1_isOpen, .initialized RX1, .code yX1_isOpen cX1_isOpen 1 (some .boolean), .fieldLink RX1 15 "GroupSeats$Row" "size" "I"] ++ wsX20 ++ wsX10)
def wsX2_told : List Cond := .code yX2_told cX2_told 2 (some .int) :: ([.fieldLink RX2 66 "GroupSeats" "bookings" "I", .fieldLink RX2 77 "GroupSeats" "waiters" "I", .fieldLink RX2 101 "GroupSeats" "mostHeld" "I", .fieldLink RX2 104 "GroupSeats" "failures" "I", .fieldLink RX2 26 "GroupSeats" "coming" "LGroupSeats$Party;", .fieldLink RX2 59 "GroupSeats$Party" "listed" "I", .methodLink RX2 107 yX2_openRows, .instanceMethod yX2_openRows, .selects RX2 yX2_openRows yX2_openRows, .initialized RX2, .code yX2_openRows cX2_openRows 3 (some .int), .fieldLink RX2 11 "GroupSeats" "rows" "[LGroupSeats$Row;", .methodLink RX2 35 yX1_isOpen, .instanceMethod yX1_isOpen, .selects RX1 yX1_isOpen yX1_isOpen, .initialized RX1, .code yX1_isOpen cX1_isOpen 1 (some .boolean), .fieldLink RX1 15 "GroupSeats$Row" "size" "I"] ++ wsX20 ++ wsX00 ++ wsX10)
def wsX2_waiting : List Cond := .code yX2_waiting cX2_waiting 2 (some .int) :: ([.fieldLink RX2 21 "GroupSeats" "queue" "[LGroupSeats$Party;", .fieldLink RX2 69 "GroupSeats$Party" "size" "I", .methodLink RX2 89 yX2_isWaiting, .instanceMethod yX2_isWaiting, .selects RX2 yX2_isWaiting yX2_isWaiting, .initialized RX2, .code yX2_isWaiting cX2_isWaiting 2 (some .boolean), .fieldLink RX2 77 "GroupSeats" "waiters" "I"] ++ wsX20 ++ wsX00)
def wsX3_init : List Cond := .code yX3_init cX3_init 1 none :: ([.methodLink RX3 1 objectInit, .instanceMethod objectInit, .code objectInit ⟨#[0xb1]⟩ 1 none, .arrayClass .boolean, .fieldLink RX3 7 "GroupSeatsModel" "isOpen" "[Z", .fieldLink RX3 13 "GroupSeatsModel" "isStrict" "[Z", .arrayClass .int, .fieldLink RX3 16 "GroupSeatsModel" "size" "[I", .fieldLink RX3 20 "GroupSeatsModel" "holds" "[I", .fieldLink RX3 23 "GroupSeatsModel" "back" "[I", .fieldLink RX3 26 "GroupSeatsModel" "seats" "[I", .fieldLink RX3 29 "GroupSeatsModel" "list" "[I", .fieldLink RX3 32 "GroupSeatsModel" "isCancelled" "[Z", .fieldLink RX3 35 "GroupSeatsModel" "people" "[I", .fieldLink RX3 38 "GroupSeatsModel" "lists" "[I", .fieldLink RX3 41 "GroupSeatsModel" "lengths" "[I", .fieldLink RX3 44 "GroupSeatsModel" "way" "[I", .fieldLink RX3 47 "GroupSeatsModel" "taken" "[I"] ++ wsX30)
def wsX3_in : List Cond := .code yX3_in cX3_in 3 (some .boolean) :: ([])
def wsX3_mark : List Cond := .code yX3_mark cX3_mark 6 (some .int) :: ([.fieldLink RX3 16 "GroupSeatsModel" "size" "[I", .fieldLink RX3 26 "GroupSeatsModel" "seats" "[I", .fieldLink RX3 54 "GroupSeatsModel" "bookings" "I"] ++ wsX30)
def wsX3_stretch : List Cond := .code yX3_stretch cX3_stretch 6 (some .int) :: ([.fieldLink RX3 57 "GroupSeatsModel" "found" "I", .fieldLink RX3 16 "GroupSeatsModel" "size" "[I", .fieldLink RX3 26 "GroupSeatsModel" "seats" "[I"] ++ wsX30)
def wsX3_takes : List Cond := .code yX3_takes cX3_takes 4 (some .int) :: ([.fieldLink RX3 13 "GroupSeatsModel" "isStrict" "[Z", .fieldLink RX3 57 "GroupSeatsModel" "found" "I", .methodLink RX3 60 yX3_mark, .instanceMethod yX3_mark, .selects RX3 yX3_mark yX3_mark, .initialized RX3, .code yX3_mark cX3_mark 6 (some .int), .fieldLink RX3 16 "GroupSeatsModel" "size" "[I", .fieldLink RX3 26 "GroupSeatsModel" "seats" "[I", .fieldLink RX3 54 "GroupSeatsModel" "bookings" "I", .methodLink RX3 64 yX3_stretch, .instanceMethod yX3_stretch, .selects RX3 yX3_stretch yX3_stretch, .code yX3_stretch cX3_stretch 6 (some .int)] ++ wsX30)
def wsX3_giveBack : List Cond := .code yX3_giveBack cX3_giveBack 3 none :: ([.fieldLink RX3 23 "GroupSeatsModel" "back" "[I", .fieldLink RX3 44 "GroupSeatsModel" "way" "[I", .fieldLink RX3 47 "GroupSeatsModel" "taken" "[I", .fieldLink RX3 26 "GroupSeatsModel" "seats" "[I", .fieldLink RX3 54 "GroupSeatsModel" "bookings" "I"] ++ wsX30)
def wsX3_goes_r1 : List Cond := [Cond.fieldLink RX3 68 "GroupSeatsModel" "wayLong" "I", Cond.fieldLink RX3 44 "GroupSeatsModel" "way" "[I", Cond.fieldLink RX3 7 "GroupSeatsModel" "isOpen" "[Z", Cond.fieldLink RX3 20 "GroupSeatsModel" "holds" "[I", Cond.fieldLink RX3 47 "GroupSeatsModel" "taken" "[I", Cond.fieldLink RX3 74 "GroupSeatsModel" "most" "I", Cond.fieldLink RX3 54 "GroupSeatsModel" "bookings" "I", Cond.fieldLink RX3 81 "GroupSeatsModel" "failures" "I", Cond.methodLink RX3 71 yX3_takes, Cond.instanceMethod yX3_takes, Cond.selects RX3 yX3_takes yX3_takes, Cond.initialized RX3, Cond.code yX3_takes cX3_takes 4 (some .int), Cond.fieldLink RX3 13 "GroupSeatsModel" "isStrict" "[Z", Cond.fieldLink RX3 57 "GroupSeatsModel" "found" "I", Cond.methodLink RX3 60 yX3_mark, Cond.instanceMethod yX3_mark, Cond.selects RX3 yX3_mark yX3_mark, Cond.code yX3_mark cX3_mark 6 (some .int), Cond.fieldLink RX3 16 "GroupSeatsModel" "size" "[I", Cond.fieldLink RX3 26 "GroupSeatsModel" "seats" "[I", Cond.methodLink RX3 64 yX3_stretch, Cond.instanceMethod yX3_stretch, Cond.selects RX3 yX3_stretch yX3_stretch]
def wsX3_goes_r2 : List Cond := [Cond.code yX3_stretch cX3_stretch 6 (some .int), Cond.methodLink RX3 77 yX3_giveBack, Cond.instanceMethod yX3_giveBack, Cond.selects RX3 yX3_giveBack yX3_giveBack, Cond.code yX3_giveBack cX3_giveBack 3 none, Cond.fieldLink RX3 23 "GroupSeatsModel" "back" "[I"]
def wsX3_goes : List Cond := .code yX3_goes cX3_goes 8 (some .int) :: ((wsX3_goes_r1 ++ wsX3_goes_r2) ++ wsX30)
def wsX3_removed : List Cond := .code yX3_removed cX3_removed 4 none :: ([.fieldLink RX3 84 "GroupSeatsModel" "waits" "I", .fieldLink RX3 35 "GroupSeatsModel" "people" "[I", .fieldLink RX3 41 "GroupSeatsModel" "lengths" "[I", .fieldLink RX3 38 "GroupSeatsModel" "lists" "[I"] ++ wsX30)
def wsX3_tried_r1 : List Cond := [Cond.fieldLink RX3 84 "GroupSeatsModel" "waits" "I", Cond.fieldLink RX3 54 "GroupSeatsModel" "bookings" "I", Cond.fieldLink RX3 41 "GroupSeatsModel" "lengths" "[I", Cond.fieldLink RX3 68 "GroupSeatsModel" "wayLong" "I", Cond.fieldLink RX3 44 "GroupSeatsModel" "way" "[I", Cond.fieldLink RX3 38 "GroupSeatsModel" "lists" "[I", Cond.fieldLink RX3 35 "GroupSeatsModel" "people" "[I", Cond.methodLink RX3 87 yX3_goes, Cond.instanceMethod yX3_goes, Cond.selects RX3 yX3_goes yX3_goes, Cond.initialized RX3, Cond.code yX3_goes cX3_goes 8 (some .int), Cond.fieldLink RX3 7 "GroupSeatsModel" "isOpen" "[Z", Cond.fieldLink RX3 20 "GroupSeatsModel" "holds" "[I", Cond.fieldLink RX3 47 "GroupSeatsModel" "taken" "[I", Cond.fieldLink RX3 74 "GroupSeatsModel" "most" "I", Cond.fieldLink RX3 81 "GroupSeatsModel" "failures" "I", Cond.methodLink RX3 71 yX3_takes, Cond.instanceMethod yX3_takes, Cond.selects RX3 yX3_takes yX3_takes, Cond.code yX3_takes cX3_takes 4 (some .int), Cond.fieldLink RX3 13 "GroupSeatsModel" "isStrict" "[Z", Cond.fieldLink RX3 57 "GroupSeatsModel" "found" "I", Cond.methodLink RX3 60 yX3_mark]
def wsX3_tried_r2 : List Cond := [Cond.instanceMethod yX3_mark, Cond.selects RX3 yX3_mark yX3_mark, Cond.code yX3_mark cX3_mark 6 (some .int), Cond.fieldLink RX3 16 "GroupSeatsModel" "size" "[I", Cond.fieldLink RX3 26 "GroupSeatsModel" "seats" "[I", Cond.methodLink RX3 64 yX3_stretch, Cond.instanceMethod yX3_stretch, Cond.selects RX3 yX3_stretch yX3_stretch, Cond.code yX3_stretch cX3_stretch 6 (some .int), Cond.methodLink RX3 77 yX3_giveBack, Cond.instanceMethod yX3_giveBack, Cond.selects RX3 yX3_giveBack yX3_giveBack, Cond.code yX3_giveBack cX3_giveBack 3 none, Cond.fieldLink RX3 23 "GroupSeatsModel" "back" "[I", Cond.methodLink RX3 90 yX3_removed, Cond.instanceMethod yX3_removed, Cond.selects RX3 yX3_removed yX3_removed, Cond.code yX3_removed cX3_removed 4 none]
def wsX3_tried : List Cond := .code yX3_tried cX3_tried 4 (some .int) :: ((wsX3_tried_r1 ++ wsX3_tried_r2) ++ wsX30)
def wsX3_open_r1 : List Cond := [Cond.fieldLink RX3 50 "GroupSeatsModel" "thrown" "I", Cond.fieldLink RX3 7 "GroupSeatsModel" "isOpen" "[Z", Cond.fieldLink RX3 13 "GroupSeatsModel" "isStrict" "[Z", Cond.fieldLink RX3 16 "GroupSeatsModel" "size" "[I", Cond.fieldLink RX3 20 "GroupSeatsModel" "holds" "[I", Cond.fieldLink RX3 23 "GroupSeatsModel" "back" "[I", Cond.fieldLink RX3 26 "GroupSeatsModel" "seats" "[I", Cond.methodLink RX3 93 yX3_in, Cond.static yX3_in, Cond.initialized RX3, Cond.code yX3_in cX3_in 3 (some .boolean), Cond.methodLink RX3 97 yX3_tried, Cond.instanceMethod yX3_tried, Cond.selects RX3 yX3_tried yX3_tried, Cond.code yX3_tried cX3_tried 4 (some .int), Cond.fieldLink RX3 84 "GroupSeatsModel" "waits" "I", Cond.fieldLink RX3 54 "GroupSeatsModel" "bookings" "I", Cond.fieldLink RX3 41 "GroupSeatsModel" "lengths" "[I", Cond.fieldLink RX3 68 "GroupSeatsModel" "wayLong" "I", Cond.fieldLink RX3 44 "GroupSeatsModel" "way" "[I", Cond.fieldLink RX3 38 "GroupSeatsModel" "lists" "[I", Cond.fieldLink RX3 35 "GroupSeatsModel" "people" "[I", Cond.methodLink RX3 87 yX3_goes, Cond.instanceMethod yX3_goes]
def wsX3_open_r2 : List Cond := [Cond.selects RX3 yX3_goes yX3_goes, Cond.code yX3_goes cX3_goes 8 (some .int), Cond.fieldLink RX3 47 "GroupSeatsModel" "taken" "[I", Cond.fieldLink RX3 74 "GroupSeatsModel" "most" "I", Cond.fieldLink RX3 81 "GroupSeatsModel" "failures" "I", Cond.methodLink RX3 71 yX3_takes, Cond.instanceMethod yX3_takes, Cond.selects RX3 yX3_takes yX3_takes, Cond.code yX3_takes cX3_takes 4 (some .int), Cond.fieldLink RX3 57 "GroupSeatsModel" "found" "I", Cond.methodLink RX3 60 yX3_mark, Cond.instanceMethod yX3_mark, Cond.selects RX3 yX3_mark yX3_mark, Cond.code yX3_mark cX3_mark 6 (some .int), Cond.methodLink RX3 64 yX3_stretch, Cond.instanceMethod yX3_stretch, Cond.selects RX3 yX3_stretch yX3_stretch, Cond.code yX3_stretch cX3_stretch 6 (some .int), Cond.methodLink RX3 77 yX3_giveBack, Cond.instanceMethod yX3_giveBack, Cond.selects RX3 yX3_giveBack yX3_giveBack, Cond.code yX3_giveBack cX3_giveBack 3 none, Cond.methodLink RX3 90 yX3_removed, Cond.instanceMethod yX3_removed]
def wsX3_open_r3 : List Cond := [Cond.selects RX3 yX3_removed yX3_removed, Cond.code yX3_removed cX3_removed 4 none]
def wsX3_open : List Cond := .code yX3_open cX3_open 4 (some .int) :: ((wsX3_open_r1 ++ (wsX3_open_r2 ++ wsX3_open_r3)) ++ wsX30)
def wsX3_free : List Cond := .code yX3_free cX3_free 4 (some .int) :: ([.fieldLink RX3 16 "GroupSeatsModel" "size" "[I", .fieldLink RX3 26 "GroupSeatsModel" "seats" "[I"] ++ wsX30)
def wsX3_shut : List Cond := .code yX3_shut cX3_shut 2 (some .int) :: ([.fieldLink RX3 50 "GroupSeatsModel" "thrown" "I", .fieldLink RX3 7 "GroupSeatsModel" "isOpen" "[Z", .fieldLink RX3 16 "GroupSeatsModel" "size" "[I", .methodLink RX3 93 yX3_in, .static yX3_in, .initialized RX3, .code yX3_in cX3_in 3 (some .boolean), .methodLink RX3 101 yX3_free, .instanceMethod yX3_free, .selects RX3 yX3_free yX3_free, .code yX3_free cX3_free 4 (some .int), .fieldLink RX3 26 "GroupSeatsModel" "seats" "[I"] ++ wsX30)
def wsX3_strict : List Cond := .code yX3_strict cX3_strict 4 (some .int) :: ([.fieldLink RX3 50 "GroupSeatsModel" "thrown" "I", .fieldLink RX3 7 "GroupSeatsModel" "isOpen" "[Z", .fieldLink RX3 13 "GroupSeatsModel" "isStrict" "[Z", .methodLink RX3 93 yX3_in, .static yX3_in, .initialized RX3, .code yX3_in cX3_in 3 (some .boolean)] ++ wsX30)
def wsX3_list : List Cond := .code yX3_list cX3_list 2 (some .int) :: ([.fieldLink RX3 50 "GroupSeatsModel" "thrown" "I", .fieldLink RX3 105 "GroupSeatsModel" "listed" "I", .fieldLink RX3 29 "GroupSeatsModel" "list" "[I", .methodLink RX3 93 yX3_in, .static yX3_in, .initialized RX3, .code yX3_in cX3_in 3 (some .boolean)] ++ wsX30)
def wsX3_book_r1 : List Cond := [Cond.fieldLink RX3 50 "GroupSeatsModel" "thrown" "I", Cond.fieldLink RX3 105 "GroupSeatsModel" "listed" "I", Cond.fieldLink RX3 54 "GroupSeatsModel" "bookings" "I", Cond.fieldLink RX3 68 "GroupSeatsModel" "wayLong" "I", Cond.fieldLink RX3 44 "GroupSeatsModel" "way" "[I", Cond.fieldLink RX3 29 "GroupSeatsModel" "list" "[I", Cond.fieldLink RX3 84 "GroupSeatsModel" "waits" "I", Cond.fieldLink RX3 35 "GroupSeatsModel" "people" "[I", Cond.fieldLink RX3 41 "GroupSeatsModel" "lengths" "[I", Cond.fieldLink RX3 38 "GroupSeatsModel" "lists" "[I", Cond.methodLink RX3 93 yX3_in, Cond.static yX3_in, Cond.initialized RX3, Cond.code yX3_in cX3_in 3 (some .boolean), Cond.methodLink RX3 87 yX3_goes, Cond.instanceMethod yX3_goes, Cond.selects RX3 yX3_goes yX3_goes, Cond.code yX3_goes cX3_goes 8 (some .int), Cond.fieldLink RX3 7 "GroupSeatsModel" "isOpen" "[Z", Cond.fieldLink RX3 20 "GroupSeatsModel" "holds" "[I", Cond.fieldLink RX3 47 "GroupSeatsModel" "taken" "[I", Cond.fieldLink RX3 74 "GroupSeatsModel" "most" "I", Cond.fieldLink RX3 81 "GroupSeatsModel" "failures" "I", Cond.methodLink RX3 71 yX3_takes]
def wsX3_book_r2 : List Cond := [Cond.instanceMethod yX3_takes, Cond.selects RX3 yX3_takes yX3_takes, Cond.code yX3_takes cX3_takes 4 (some .int), Cond.fieldLink RX3 13 "GroupSeatsModel" "isStrict" "[Z", Cond.fieldLink RX3 57 "GroupSeatsModel" "found" "I", Cond.methodLink RX3 60 yX3_mark, Cond.instanceMethod yX3_mark, Cond.selects RX3 yX3_mark yX3_mark, Cond.code yX3_mark cX3_mark 6 (some .int), Cond.fieldLink RX3 16 "GroupSeatsModel" "size" "[I", Cond.fieldLink RX3 26 "GroupSeatsModel" "seats" "[I", Cond.methodLink RX3 64 yX3_stretch, Cond.instanceMethod yX3_stretch, Cond.selects RX3 yX3_stretch yX3_stretch, Cond.code yX3_stretch cX3_stretch 6 (some .int), Cond.methodLink RX3 77 yX3_giveBack, Cond.instanceMethod yX3_giveBack, Cond.selects RX3 yX3_giveBack yX3_giveBack, Cond.code yX3_giveBack cX3_giveBack 3 none, Cond.fieldLink RX3 23 "GroupSeatsModel" "back" "[I"]
def wsX3_book : List Cond := .code yX3_book cX3_book 5 (some .int) :: ((wsX3_book_r1 ++ wsX3_book_r2) ++ wsX30)
def wsX3_cancel_r1 : List Cond := [Cond.fieldLink RX3 50 "GroupSeatsModel" "thrown" "I", Cond.fieldLink RX3 54 "GroupSeatsModel" "bookings" "I", Cond.fieldLink RX3 32 "GroupSeatsModel" "isCancelled" "[Z", Cond.fieldLink RX3 26 "GroupSeatsModel" "seats" "[I", Cond.methodLink RX3 93 yX3_in, Cond.static yX3_in, Cond.initialized RX3, Cond.code yX3_in cX3_in 3 (some .boolean), Cond.methodLink RX3 97 yX3_tried, Cond.instanceMethod yX3_tried, Cond.selects RX3 yX3_tried yX3_tried, Cond.code yX3_tried cX3_tried 4 (some .int), Cond.fieldLink RX3 84 "GroupSeatsModel" "waits" "I", Cond.fieldLink RX3 41 "GroupSeatsModel" "lengths" "[I", Cond.fieldLink RX3 68 "GroupSeatsModel" "wayLong" "I", Cond.fieldLink RX3 44 "GroupSeatsModel" "way" "[I", Cond.fieldLink RX3 38 "GroupSeatsModel" "lists" "[I", Cond.fieldLink RX3 35 "GroupSeatsModel" "people" "[I", Cond.methodLink RX3 87 yX3_goes, Cond.instanceMethod yX3_goes, Cond.selects RX3 yX3_goes yX3_goes, Cond.code yX3_goes cX3_goes 8 (some .int), Cond.fieldLink RX3 7 "GroupSeatsModel" "isOpen" "[Z", Cond.fieldLink RX3 20 "GroupSeatsModel" "holds" "[I"]
def wsX3_cancel_r2 : List Cond := [Cond.fieldLink RX3 47 "GroupSeatsModel" "taken" "[I", Cond.fieldLink RX3 74 "GroupSeatsModel" "most" "I", Cond.fieldLink RX3 81 "GroupSeatsModel" "failures" "I", Cond.methodLink RX3 71 yX3_takes, Cond.instanceMethod yX3_takes, Cond.selects RX3 yX3_takes yX3_takes, Cond.code yX3_takes cX3_takes 4 (some .int), Cond.fieldLink RX3 13 "GroupSeatsModel" "isStrict" "[Z", Cond.fieldLink RX3 57 "GroupSeatsModel" "found" "I", Cond.methodLink RX3 60 yX3_mark, Cond.instanceMethod yX3_mark, Cond.selects RX3 yX3_mark yX3_mark, Cond.code yX3_mark cX3_mark 6 (some .int), Cond.fieldLink RX3 16 "GroupSeatsModel" "size" "[I", Cond.methodLink RX3 64 yX3_stretch, Cond.instanceMethod yX3_stretch, Cond.selects RX3 yX3_stretch yX3_stretch, Cond.code yX3_stretch cX3_stretch 6 (some .int), Cond.methodLink RX3 77 yX3_giveBack, Cond.instanceMethod yX3_giveBack, Cond.selects RX3 yX3_giveBack yX3_giveBack, Cond.code yX3_giveBack cX3_giveBack 3 none, Cond.fieldLink RX3 23 "GroupSeatsModel" "back" "[I", Cond.methodLink RX3 90 yX3_removed]
def wsX3_cancel_r3 : List Cond := [Cond.instanceMethod yX3_removed, Cond.selects RX3 yX3_removed yX3_removed, Cond.code yX3_removed cX3_removed 4 none]
def wsX3_cancel : List Cond := .code yX3_cancel cX3_cancel 3 (some .int) :: ((wsX3_cancel_r1 ++ (wsX3_cancel_r2 ++ wsX3_cancel_r3)) ++ wsX30)
def wsX3_leave : List Cond := .code yX3_leave cX3_leave 3 (some .int) :: ([.fieldLink RX3 50 "GroupSeatsModel" "thrown" "I", .fieldLink RX3 84 "GroupSeatsModel" "waits" "I", .fieldLink RX3 35 "GroupSeatsModel" "people" "[I", .methodLink RX3 93 yX3_in, .static yX3_in, .initialized RX3, .code yX3_in cX3_in 3 (some .boolean), .methodLink RX3 90 yX3_removed, .instanceMethod yX3_removed, .selects RX3 yX3_removed yX3_removed, .code yX3_removed cX3_removed 4 none, .fieldLink RX3 41 "GroupSeatsModel" "lengths" "[I", .fieldLink RX3 38 "GroupSeatsModel" "lists" "[I"] ++ wsX30)
def wsX3_seat : List Cond := .code yX3_seat cX3_seat 3 (some .int) :: ([.fieldLink RX3 50 "GroupSeatsModel" "thrown" "I", .fieldLink RX3 7 "GroupSeatsModel" "isOpen" "[Z", .fieldLink RX3 16 "GroupSeatsModel" "size" "[I", .fieldLink RX3 26 "GroupSeatsModel" "seats" "[I", .methodLink RX3 93 yX3_in, .static yX3_in, .initialized RX3, .code yX3_in cX3_in 3 (some .boolean)] ++ wsX30)
def wsX3_has : List Cond := .code yX3_has cX3_has 5 (some .int) :: ([.fieldLink RX3 50 "GroupSeatsModel" "thrown" "I", .fieldLink RX3 54 "GroupSeatsModel" "bookings" "I", .fieldLink RX3 7 "GroupSeatsModel" "isOpen" "[Z", .fieldLink RX3 16 "GroupSeatsModel" "size" "[I", .fieldLink RX3 26 "GroupSeatsModel" "seats" "[I", .methodLink RX3 93 yX3_in, .static yX3_in, .initialized RX3, .code yX3_in cX3_in 3 (some .boolean)] ++ wsX30)
def wsX3_about : List Cond := .code yX3_about cX3_about 3 (some .int) :: ([.fieldLink RX3 50 "GroupSeatsModel" "thrown" "I", .fieldLink RX3 7 "GroupSeatsModel" "isOpen" "[Z", .fieldLink RX3 20 "GroupSeatsModel" "holds" "[I", .fieldLink RX3 23 "GroupSeatsModel" "back" "[I", .fieldLink RX3 16 "GroupSeatsModel" "size" "[I", .methodLink RX3 93 yX3_in, .static yX3_in, .initialized RX3, .code yX3_in cX3_in 3 (some .boolean), .methodLink RX3 101 yX3_free, .instanceMethod yX3_free, .selects RX3 yX3_free yX3_free, .code yX3_free cX3_free 4 (some .int), .fieldLink RX3 26 "GroupSeatsModel" "seats" "[I"] ++ wsX30)
def wsX3_told : List Cond := .code yX3_told cX3_told 4 (some .int) :: ([.fieldLink RX3 50 "GroupSeatsModel" "thrown" "I", .fieldLink RX3 7 "GroupSeatsModel" "isOpen" "[Z", .fieldLink RX3 54 "GroupSeatsModel" "bookings" "I", .fieldLink RX3 84 "GroupSeatsModel" "waits" "I", .fieldLink RX3 74 "GroupSeatsModel" "most" "I", .fieldLink RX3 81 "GroupSeatsModel" "failures" "I", .fieldLink RX3 105 "GroupSeatsModel" "listed" "I"] ++ wsX30)
def wsX3_waiting : List Cond := .code yX3_waiting cX3_waiting 2 (some .int) :: ([.fieldLink RX3 50 "GroupSeatsModel" "thrown" "I", .fieldLink RX3 84 "GroupSeatsModel" "waits" "I", .fieldLink RX3 35 "GroupSeatsModel" "people" "[I", .methodLink RX3 93 yX3_in, .static yX3_in, .initialized RX3, .code yX3_in cX3_in 3 (some .boolean)] ++ wsX30)
def wsJ9_max_7cf53 : List Cond := .code yJ9_max_7cf53 cJ9_max_7cf53 2 (some .int) :: ([])
def wsL_law_r1 : List Cond := [Cond.classLink RL 7 RX2, Cond.instantiable RX2 8, Cond.initialized RX2, Cond.classLink RL 10 RX3, Cond.instantiable RX3 21, Cond.initialized RX3, Cond.methodLink RL 9 yX2_init, Cond.instanceMethod yX2_init, Cond.code yX2_init cX2_init 2 none, Cond.methodLink RX2 1 objectInit, Cond.instanceMethod objectInit, Cond.code objectInit ⟨#[0xb1]⟩ 1 none, Cond.classLink RX2 9 RX1, Cond.fieldLink RX2 11 "GroupSeats" "rows" "[LGroupSeats$Row;", Cond.arrayClass .boolean, Cond.fieldLink RX2 15 "GroupSeats" "cancelled" "[Z", Cond.classLink RX2 19 RX0, Cond.fieldLink RX2 21 "GroupSeats" "queue" "[LGroupSeats$Party;", Cond.instantiable RX0 4, Cond.initialized RX0, Cond.fieldLink RX2 26 "GroupSeats" "coming" "LGroupSeats$Party;", Cond.instantiable RX1 5, Cond.initialized RX1, Cond.instanceMethod yX0_init]
def wsL_law_r2 : List Cond := [Cond.code yX0_init cX0_init 1 none, Cond.methodLink RX0 3 objectInit, Cond.arrayClass .int, Cond.fieldLink RX0 9 "GroupSeats$Party" "numbers" "[I", Cond.instanceMethod yX1_init, Cond.code yX1_init cX1_init 1 none, Cond.methodLink RX1 3 objectInit, Cond.fieldLink RX1 9 "GroupSeats$Row" "owners" "[I", Cond.methodLink RL 12 yX3_init, Cond.instanceMethod yX3_init, Cond.code yX3_init cX3_init 1 none, Cond.methodLink RX3 1 objectInit, Cond.fieldLink RX3 7 "GroupSeatsModel" "isOpen" "[Z", Cond.fieldLink RX3 13 "GroupSeatsModel" "isStrict" "[Z", Cond.fieldLink RX3 16 "GroupSeatsModel" "size" "[I", Cond.fieldLink RX3 20 "GroupSeatsModel" "holds" "[I", Cond.fieldLink RX3 23 "GroupSeatsModel" "back" "[I", Cond.fieldLink RX3 26 "GroupSeatsModel" "seats" "[I", Cond.fieldLink RX3 29 "GroupSeatsModel" "list" "[I", Cond.fieldLink RX3 32 "GroupSeatsModel" "isCancelled" "[Z", Cond.fieldLink RX3 35 "GroupSeatsModel" "people" "[I", Cond.fieldLink RX3 38 "GroupSeatsModel" "lists" "[I", Cond.fieldLink RX3 41 "GroupSeatsModel" "lengths" "[I", Cond.fieldLink RX3 44 "GroupSeatsModel" "way" "[I"]
def wsL_law_r3 : List Cond := [Cond.fieldLink RX3 47 "GroupSeatsModel" "taken" "[I", Cond.methodLink RL 13 yX2_open, Cond.instanceMethod yX2_open, Cond.selects RX2 yX2_open yX2_open, Cond.code yX2_open cX2_open 3 (some .int), Cond.methodLink RX2 31 yX2_isRow, Cond.static yX2_isRow, Cond.code yX2_isRow cX2_isRow 1 (some .boolean), Cond.methodLink RX2 35 yX1_isOpen, Cond.instanceMethod yX1_isOpen, Cond.selects RX1 yX1_isOpen yX1_isOpen, Cond.code yX1_isOpen cX1_isOpen 1 (some .boolean), Cond.fieldLink RX1 15 "GroupSeats$Row" "size" "I", Cond.methodLink RX2 39 yX1_begin, Cond.instanceMethod yX1_begin, Cond.selects RX1 yX1_begin yX1_begin, Cond.code yX1_begin cX1_begin 3 none, Cond.fieldLink RX1 19 "GroupSeats$Row" "sideBySide" "Z", Cond.fieldLink RX1 23 "GroupSeats$Row" "backs" "I", Cond.methodLink RX2 43 yX2_tryThoseWaiting, Cond.instanceMethod yX2_tryThoseWaiting, Cond.selects RX2 yX2_tryThoseWaiting yX2_tryThoseWaiting, Cond.code yX2_tryThoseWaiting cX2_tryThoseWaiting 5 (some .int), Cond.fieldLink RX2 77 "GroupSeats" "waiters" "I"]
def wsL_law_r4 : List Cond := [Cond.fieldLink RX2 66 "GroupSeats" "bookings" "I", Cond.methodLink RX2 73 yX2_goThrough, Cond.instanceMethod yX2_goThrough, Cond.selects RX2 yX2_goThrough yX2_goThrough, Cond.code yX2_goThrough cX2_goThrough 4 (some .int), Cond.fieldLink RX2 69 "GroupSeats$Party" "size" "I", Cond.fieldLink RX2 104 "GroupSeats" "failures" "I", Cond.methodLink RX2 110 yX2_goOn, Cond.instanceMethod yX2_goOn, Cond.selects RX2 yX2_goOn yX2_goOn, Cond.code yX2_goOn cX2_goOn 8 (some .int), Cond.fieldLink RX2 70 "GroupSeats$Party" "mode" "I", Cond.fieldLink RX2 62 "GroupSeats$Party" "numbers" "[I", Cond.fieldLink RX2 95 "GroupSeats$Row" "holds" "I", Cond.fieldLink RX2 101 "GroupSeats" "mostHeld" "I", Cond.methodLink RX2 118 Lib.Math.max.name, Cond.static Lib.Math.max.name, Cond.initialized "java/lang/Math", Cond.code Lib.Math.max.name Lib.Math.max.code 2 (some .int), Cond.methodLink RX2 114 yX2_obstacleAt, Cond.instanceMethod yX2_obstacleAt, Cond.selects RX2 yX2_obstacleAt yX2_obstacleAt, Cond.code yX2_obstacleAt cX2_obstacleAt 4 (some .int), Cond.fieldLink RX2 59 "GroupSeats$Party" "listed" "I"]
def wsL_law_r5 : List Cond := [Cond.methodLink RX2 124 yX1_take, Cond.instanceMethod yX1_take, Cond.selects RX1 yX1_take yX1_take, Cond.code yX1_take cX1_take 7 (some .int), Cond.methodLink RX1 26 yX1_bestStretch, Cond.instanceMethod yX1_bestStretch, Cond.selects RX1 yX1_bestStretch yX1_bestStretch, Cond.code yX1_bestStretch cX1_bestStretch 6 (some .int), Cond.methodLink RX2 127 yJ6_bitCount_0f7a4, Cond.static yJ6_bitCount_0f7a4, Cond.initialized RJ6, Cond.code yJ6_bitCount_0f7a4 cJ6_bitCount_0f7a4 1 (some .int), Cond.constant RJ6 265 (1431655765), Cond.constant RJ6 266 (858993459), Cond.constant RJ6 267 (252645135), Cond.methodLink RX2 132 yX1_giveBack, Cond.instanceMethod yX1_giveBack, Cond.selects RX1 yX1_giveBack yX1_giveBack, Cond.code yX1_giveBack cX1_giveBack 3 none, Cond.methodLink RL 17 yX3_open, Cond.instanceMethod yX3_open, Cond.selects RX3 yX3_open yX3_open, Cond.code yX3_open cX3_open 4 (some .int), Cond.fieldLink RX3 50 "GroupSeatsModel" "thrown" "I"]
def wsL_law_r6 : List Cond := [Cond.methodLink RX3 93 yX3_in, Cond.static yX3_in, Cond.code yX3_in cX3_in 3 (some .boolean), Cond.methodLink RX3 97 yX3_tried, Cond.instanceMethod yX3_tried, Cond.selects RX3 yX3_tried yX3_tried, Cond.code yX3_tried cX3_tried 4 (some .int), Cond.fieldLink RX3 84 "GroupSeatsModel" "waits" "I", Cond.fieldLink RX3 54 "GroupSeatsModel" "bookings" "I", Cond.fieldLink RX3 68 "GroupSeatsModel" "wayLong" "I", Cond.methodLink RX3 87 yX3_goes, Cond.instanceMethod yX3_goes, Cond.selects RX3 yX3_goes yX3_goes, Cond.code yX3_goes cX3_goes 8 (some .int), Cond.fieldLink RX3 74 "GroupSeatsModel" "most" "I", Cond.fieldLink RX3 81 "GroupSeatsModel" "failures" "I", Cond.methodLink RX3 71 yX3_takes, Cond.instanceMethod yX3_takes, Cond.selects RX3 yX3_takes yX3_takes, Cond.code yX3_takes cX3_takes 4 (some .int), Cond.fieldLink RX3 57 "GroupSeatsModel" "found" "I", Cond.methodLink RX3 60 yX3_mark, Cond.instanceMethod yX3_mark, Cond.selects RX3 yX3_mark yX3_mark]
def wsL_law_r7 : List Cond := [Cond.code yX3_mark cX3_mark 6 (some .int), Cond.methodLink RX3 64 yX3_stretch, Cond.instanceMethod yX3_stretch, Cond.selects RX3 yX3_stretch yX3_stretch, Cond.code yX3_stretch cX3_stretch 6 (some .int), Cond.methodLink RX3 77 yX3_giveBack, Cond.instanceMethod yX3_giveBack, Cond.selects RX3 yX3_giveBack yX3_giveBack, Cond.code yX3_giveBack cX3_giveBack 3 none, Cond.methodLink RX3 90 yX3_removed, Cond.instanceMethod yX3_removed, Cond.selects RX3 yX3_removed yX3_removed, Cond.code yX3_removed cX3_removed 4 none, Cond.methodLink RL 18 yX2_shut, Cond.instanceMethod yX2_shut, Cond.selects RX2 yX2_shut yX2_shut, Cond.code yX2_shut cX2_shut 4 (some .int), Cond.fieldLink RX2 51 "GroupSeats$Row" "size" "I", Cond.methodLink RX2 47 yX1_seatsOf, Cond.instanceMethod yX1_seatsOf, Cond.selects RX1 yX1_seatsOf yX1_seatsOf, Cond.code yX1_seatsOf cX1_seatsOf 4 (some .int), Cond.methodLink RL 22 yX3_shut, Cond.instanceMethod yX3_shut]
def wsL_law_r8 : List Cond := [Cond.selects RX3 yX3_shut yX3_shut, Cond.code yX3_shut cX3_shut 2 (some .int), Cond.methodLink RX3 101 yX3_free, Cond.instanceMethod yX3_free, Cond.selects RX3 yX3_free yX3_free, Cond.code yX3_free cX3_free 4 (some .int), Cond.methodLink RL 23 yX2_strict, Cond.instanceMethod yX2_strict, Cond.selects RX2 yX2_strict yX2_strict, Cond.code yX2_strict cX2_strict 4 (some .int), Cond.fieldLink RX2 55 "GroupSeats$Row" "sideBySide" "Z", Cond.methodLink RL 27 yX3_strict, Cond.instanceMethod yX3_strict, Cond.selects RX3 yX3_strict yX3_strict, Cond.code yX3_strict cX3_strict 4 (some .int), Cond.methodLink RL 28 yX2_list, Cond.instanceMethod yX2_list, Cond.selects RX2 yX2_list yX2_list, Cond.code yX2_list cX2_list 2 (some .int), Cond.methodLink RL 31 yX3_list, Cond.instanceMethod yX3_list, Cond.selects RX3 yX3_list yX3_list, Cond.code yX3_list cX3_list 2 (some .int), Cond.fieldLink RX3 105 "GroupSeatsModel" "listed" "I"]
def wsL_law_r9 : List Cond := [Cond.methodLink RL 32 yX2_book, Cond.instanceMethod yX2_book, Cond.selects RX2 yX2_book yX2_book, Cond.code yX2_book cX2_book 4 (some .int), Cond.methodLink RX2 80 yX2_queueUp, Cond.instanceMethod yX2_queueUp, Cond.selects RX2 yX2_queueUp yX2_queueUp, Cond.code yX2_queueUp cX2_queueUp 2 none, Cond.methodLink RL 35 yX3_book, Cond.instanceMethod yX3_book, Cond.selects RX3 yX3_book yX3_book, Cond.code yX3_book cX3_book 5 (some .int), Cond.methodLink RL 36 yX2_cancel, Cond.instanceMethod yX2_cancel, Cond.selects RX2 yX2_cancel yX2_cancel, Cond.code yX2_cancel cX2_cancel 3 (some .int), Cond.methodLink RX2 83 yX2_isBooking, Cond.instanceMethod yX2_isBooking, Cond.selects RX2 yX2_isBooking yX2_isBooking, Cond.code yX2_isBooking cX2_isBooking 2 (some .boolean), Cond.methodLink RX2 86 yX1_freeSeatsOf, Cond.instanceMethod yX1_freeSeatsOf, Cond.selects RX1 yX1_freeSeatsOf yX1_freeSeatsOf, Cond.code yX1_freeSeatsOf cX1_freeSeatsOf 3 none]
def wsL_law_r10 : List Cond := [Cond.methodLink RL 39 yX3_cancel, Cond.instanceMethod yX3_cancel, Cond.selects RX3 yX3_cancel yX3_cancel, Cond.code yX3_cancel cX3_cancel 3 (some .int), Cond.methodLink RL 40 yX2_leave, Cond.instanceMethod yX2_leave, Cond.selects RX2 yX2_leave yX2_leave, Cond.code yX2_leave cX2_leave 4 (some .int), Cond.methodLink RX2 89 yX2_isWaiting, Cond.instanceMethod yX2_isWaiting, Cond.selects RX2 yX2_isWaiting yX2_isWaiting, Cond.code yX2_isWaiting cX2_isWaiting 2 (some .boolean), Cond.methodLink RL 43 yX3_leave, Cond.instanceMethod yX3_leave, Cond.selects RX3 yX3_leave yX3_leave, Cond.code yX3_leave cX3_leave 3 (some .int), Cond.methodLink RL 44 yX2_seat, Cond.instanceMethod yX2_seat, Cond.selects RX2 yX2_seat yX2_seat, Cond.code yX2_seat cX2_seat 3 (some .int), Cond.fieldLink RX2 92 "GroupSeats$Row" "owners" "[I", Cond.methodLink RL 47 yX3_seat, Cond.instanceMethod yX3_seat, Cond.selects RX3 yX3_seat yX3_seat]
def wsL_law_r11 : List Cond := [Cond.code yX3_seat cX3_seat 3 (some .int), Cond.methodLink RL 48 yX2_has, Cond.instanceMethod yX2_has, Cond.selects RX2 yX2_has yX2_has, Cond.code yX2_has cX2_has 3 (some .int), Cond.methodLink RL 51 yX3_has, Cond.instanceMethod yX3_has, Cond.selects RX3 yX3_has yX3_has, Cond.code yX3_has cX3_has 5 (some .int), Cond.methodLink RL 52 yX2_about, Cond.instanceMethod yX2_about, Cond.selects RX2 yX2_about yX2_about, Cond.code yX2_about cX2_about 4 (some .int), Cond.fieldLink RX2 98 "GroupSeats$Row" "backs" "I", Cond.methodLink RL 55 yX3_about, Cond.instanceMethod yX3_about, Cond.selects RX3 yX3_about yX3_about, Cond.code yX3_about cX3_about 3 (some .int), Cond.methodLink RL 56 yX2_told, Cond.instanceMethod yX2_told, Cond.selects RX2 yX2_told yX2_told, Cond.code yX2_told cX2_told 2 (some .int), Cond.methodLink RX2 107 yX2_openRows, Cond.instanceMethod yX2_openRows]
def wsL_law_r12 : List Cond := [Cond.selects RX2 yX2_openRows yX2_openRows, Cond.code yX2_openRows cX2_openRows 3 (some .int), Cond.methodLink RL 59 yX3_told, Cond.instanceMethod yX3_told, Cond.selects RX3 yX3_told yX3_told, Cond.code yX3_told cX3_told 4 (some .int), Cond.methodLink RL 60 yX2_waiting, Cond.instanceMethod yX2_waiting, Cond.selects RX2 yX2_waiting yX2_waiting, Cond.code yX2_waiting cX2_waiting 2 (some .int), Cond.methodLink RL 63 yX3_waiting, Cond.instanceMethod yX3_waiting, Cond.selects RX3 yX3_waiting yX3_waiting, Cond.code yX3_waiting cX3_waiting 2 (some .int)]
def wsL_law : List Cond := (wsL_law_r1 ++ (wsL_law_r2 ++ (wsL_law_r3 ++ (wsL_law_r4 ++ (wsL_law_r5 ++ (wsL_law_r6 ++ (wsL_law_r7 ++ (wsL_law_r8 ++ (wsL_law_r9 ++ (wsL_law_r10 ++ (wsL_law_r11 ++ wsL_law_r12))))))))))) ++ wsX20 ++ wsX30 ++ wsX00 ++ wsX10 ++ ([] : List Cond)
set_option maxRecDepth 20000 in
theorem wsL_law_in : ∀ w ∈ wsL_law, w ∈ lw_tbl := fun w h => (goodIn_p wsL_law [27, 30, 38, 59, 230, 109, 112, 116, 120, 124, 128, 132, 139, 136, 143, 147, 150, 157, 299, 302, 306, 310, 314, 318, 322, 326, 330, 161, 165, 334, 338, 169, 342, 173, 346, 177, 181, 350, 185, 189, 193, 354, 197, 201, 358, 205, 362, 209, 366, 213, 370, 217, 221, 374, 225, 378] (by decide +kernel) (by decide +kernel) w h).1
theorem inlX0 : ∀ w ∈ wsX00, w ∈ wsL_law := fun _ h => List.mem_append_left _ (List.mem_append_left _ (List.mem_append_right _ h))
theorem inX0 : ∀ w ∈ wsX00, w ∈ lw_tbl := fun w h => wsL_law_in w (inlX0 w h)
theorem inlX1 : ∀ w ∈ wsX10, w ∈ wsL_law := fun _ h => List.mem_append_left _ (List.mem_append_right _ h)
theorem inX1 : ∀ w ∈ wsX10, w ∈ lw_tbl := fun w h => wsL_law_in w (inlX1 w h)
theorem inlX2 : ∀ w ∈ wsX20, w ∈ wsL_law := fun _ h => List.mem_append_left _ (List.mem_append_left _ (List.mem_append_left _ (List.mem_append_left _ (List.mem_append_right _ h))))
theorem inX2 : ∀ w ∈ wsX20, w ∈ lw_tbl := fun w h => wsL_law_in w (inlX2 w h)
theorem inlX3 : ∀ w ∈ wsX30, w ∈ wsL_law := fun _ h => List.mem_append_left _ (List.mem_append_left _ (List.mem_append_left _ (List.mem_append_right _ h)))
theorem inX3 : ∀ w ∈ wsX30, w ∈ lw_tbl := fun w h => wsL_law_in w (inlX3 w h)
theorem inJ6 : ∀ w ∈ wsJ60, w ∈ lw_tbl := by decide +kernel
theorem inJ9 : ∀ w ∈ wsJ90, w ∈ lw_tbl := by decide +kernel
set_option maxRecDepth 20000 in
theorem ggX1_take_X1_bestStretch : GoodIn wsX1_take wsX1_bestStretch := goodIn_r _ [8, 2, 3, 9, 10, 11, 12, 13] (by decide +kernel) (by decide +kernel)
set_option maxRecDepth 20000 in
theorem gX1_take_X1_bestStretch : GoodIn wsX1_take (wsV RX1 26 RX1 yX1_bestStretch wsX1_bestStretch) := goodIn_app (goodIn_of _ (by decide +kernel)) ggX1_take_X1_bestStretch
set_option maxRecDepth 20000 in
theorem ggX2_init_X0_init : GoodIn wsX2_init wsX0_init := goodIn_r _ [16, 17, 2, 3, 18, 19, 32, 33, 34, 35] (by decide +kernel) (by decide +kernel)
set_option maxRecDepth 20000 in
theorem gX2_init_X0_init_n25 : GoodIn wsX2_init (wsX0_init) := ggX2_init_X0_init
set_option maxRecDepth 20000 in
theorem ggX2_init_X1_init : GoodIn wsX2_init wsX1_init := goodIn_r _ [21, 22, 2, 3, 18, 23, 36, 37, 38, 39, 40] (by decide +kernel) (by decide +kernel)
set_option maxRecDepth 20000 in
theorem gX2_init_X1_init_n30 : GoodIn wsX2_init (wsX1_init) := ggX2_init_X1_init
set_option maxRecDepth 20000 in
theorem ggX2_open_X2_isRow : GoodIn wsX2_open wsX2_isRow := goodIn_r _ [5] (by decide +kernel) (by decide +kernel)
set_option maxRecDepth 20000 in
theorem gX2_open_X2_isRow : GoodIn wsX2_open (va_wsS RX2 31 yX2_isRow wsX2_isRow) := goodIn_app (goodIn_of _ (by decide +kernel)) ggX2_open_X2_isRow
set_option maxRecDepth 20000 in
theorem ggX2_open_X1_isOpen : GoodIn wsX2_open wsX1_isOpen := goodIn_r _ [10, 11, 76, 77, 78, 79, 80] (by decide +kernel) (by decide +kernel)
set_option maxRecDepth 20000 in
theorem gX2_open_X1_isOpen : GoodIn wsX2_open (wsV RX2 35 RX1 yX1_isOpen wsX1_isOpen) := goodIn_app (goodIn_of _ (by decide +kernel)) ggX2_open_X1_isOpen
set_option maxRecDepth 20000 in
theorem ggX2_open_X1_begin : GoodIn wsX2_open wsX1_begin := goodIn_r _ [15, 11, 16, 17, 18, 76, 77, 78, 79, 80] (by decide +kernel) (by decide +kernel)
set_option maxRecDepth 20000 in
theorem gX2_open_X1_begin : GoodIn wsX2_open (wsV RX2 39 RX1 yX1_begin wsX1_begin) := goodIn_app (goodIn_of _ (by decide +kernel)) ggX2_open_X1_begin
set_option maxRecDepth 20000 in
theorem ggX2_open_X2_tryThoseWaiting : GoodIn wsX2_open wsX2_tryThoseWaiting := goodIn_r _ [22, 23, 24, 25, 26, 27, 28, 4, 29, 30, 31, 32, 33, 34, 35, 36, 1, 37, 38, 39, 40, 41, 42, 43, 44, 45, 46, 47, 48, 2, 3, 5, 6, 7, 8, 9, 10, 11, 49, 50, 51, 52, 16, 18, 53, 54, 55, 56, 57, 58, 59, 60, 61, 62, 63, 64, 65, 66, 67, 17, 68, 69, 70, 71, 72, 73, 74, 75, 81, 82, 83, 84, 76, 77, 78, 79, 80] (by decide +kernel) (by decide +kernel)
set_option maxRecDepth 20000 in
theorem gX2_open_X2_tryThoseWaiting : GoodIn wsX2_open (wsV RX2 43 RX2 yX2_tryThoseWaiting wsX2_tryThoseWaiting) := goodIn_app (goodIn_of _ (by decide +kernel)) ggX2_open_X2_tryThoseWaiting
set_option maxRecDepth 20000 in
theorem ggX2_shut_X2_isRow : GoodIn wsX2_shut wsX2_isRow := goodIn_r _ [6] (by decide +kernel) (by decide +kernel)
set_option maxRecDepth 20000 in
theorem gX2_shut_X2_isRow : GoodIn wsX2_shut (va_wsS RX2 31 yX2_isRow wsX2_isRow) := goodIn_app (goodIn_of _ (by decide +kernel)) ggX2_shut_X2_isRow
set_option maxRecDepth 20000 in
theorem ggX2_shut_X1_isOpen : GoodIn wsX2_shut wsX1_isOpen := goodIn_r _ [11, 12, 26, 27, 28, 29, 30] (by decide +kernel) (by decide +kernel)
set_option maxRecDepth 20000 in
theorem gX2_shut_X1_isOpen : GoodIn wsX2_shut (wsV RX2 35 RX1 yX1_isOpen wsX1_isOpen) := goodIn_app (goodIn_of _ (by decide +kernel)) ggX2_shut_X1_isOpen
set_option maxRecDepth 20000 in
theorem ggX2_shut_X1_seatsOf : GoodIn wsX2_shut wsX1_seatsOf := goodIn_r _ [16, 12, 17, 26, 27, 28, 29, 30] (by decide +kernel) (by decide +kernel)
set_option maxRecDepth 20000 in
theorem gX2_shut_X1_seatsOf : GoodIn wsX2_shut (wsV RX2 47 RX1 yX1_seatsOf wsX1_seatsOf) := goodIn_app (goodIn_of _ (by decide +kernel)) ggX2_shut_X1_seatsOf
set_option maxRecDepth 20000 in
theorem ggX2_strict_X2_isRow : GoodIn wsX2_strict wsX2_isRow := goodIn_r _ [6] (by decide +kernel) (by decide +kernel)
set_option maxRecDepth 20000 in
theorem gX2_strict_X2_isRow : GoodIn wsX2_strict (va_wsS RX2 31 yX2_isRow wsX2_isRow) := goodIn_app (goodIn_of _ (by decide +kernel)) ggX2_strict_X2_isRow
set_option maxRecDepth 20000 in
theorem ggX2_strict_X1_isOpen : GoodIn wsX2_strict wsX1_isOpen := goodIn_r _ [11, 12, 21, 22, 23, 24, 25] (by decide +kernel) (by decide +kernel)
set_option maxRecDepth 20000 in
theorem gX2_strict_X1_isOpen : GoodIn wsX2_strict (wsV RX2 35 RX1 yX1_isOpen wsX1_isOpen) := goodIn_app (goodIn_of _ (by decide +kernel)) ggX2_strict_X1_isOpen
set_option maxRecDepth 20000 in
theorem ggX2_book_X2_goThrough : GoodIn wsX2_book wsX2_goThrough := goodIn_r _ [11, 4, 12, 3, 13, 14, 15, 10, 16, 5, 17, 18, 19, 20, 21, 22, 23, 24, 25, 26, 27, 28, 2, 29, 30, 31, 32, 33, 34, 35, 36, 37, 38, 39, 40, 41, 42, 43, 44, 45, 46, 47, 48, 49, 50, 51, 52, 53, 54, 55, 56, 57, 58, 59, 73, 74, 75, 76, 65, 66, 67, 68, 69, 70, 71, 72, 77, 78, 79, 80, 81] (by decide +kernel) (by decide +kernel)
set_option maxRecDepth 20000 in
theorem gX2_book_X2_goThrough : GoodIn wsX2_book (wsV RX2 73 RX2 yX2_goThrough wsX2_goThrough) := goodIn_app (goodIn_of _ (by decide +kernel)) ggX2_book_X2_goThrough
set_option maxRecDepth 20000 in
theorem ggX2_book_X2_queueUp : GoodIn wsX2_book wsX2_queueUp := goodIn_r _ [63, 64, 6, 1, 65, 66, 67, 68, 69, 70, 71, 72] (by decide +kernel) (by decide +kernel)
set_option maxRecDepth 20000 in
theorem gX2_book_X2_queueUp : GoodIn wsX2_book (wsV RX2 80 RX2 yX2_queueUp wsX2_queueUp) := goodIn_app (goodIn_of _ (by decide +kernel)) ggX2_book_X2_queueUp
set_option maxRecDepth 20000 in
theorem ggX2_cancel_X2_isBooking : GoodIn wsX2_cancel wsX2_isBooking := goodIn_r _ [7, 8, 73, 74, 75, 76, 77, 78, 79, 80] (by decide +kernel) (by decide +kernel)
set_option maxRecDepth 20000 in
theorem gX2_cancel_X2_isBooking : GoodIn wsX2_cancel (wsV RX2 83 RX2 yX2_isBooking wsX2_isBooking) := goodIn_app (goodIn_of _ (by decide +kernel)) ggX2_cancel_X2_isBooking
set_option maxRecDepth 20000 in
theorem ggX2_cancel_X1_freeSeatsOf : GoodIn wsX2_cancel wsX1_freeSeatsOf := goodIn_r _ [13, 14, 15, 81, 82, 83, 84, 85] (by decide +kernel) (by decide +kernel)
set_option maxRecDepth 20000 in
theorem gX2_cancel_X1_freeSeatsOf : GoodIn wsX2_cancel (wsV RX2 86 RX1 yX1_freeSeatsOf wsX1_freeSeatsOf) := goodIn_app (goodIn_of _ (by decide +kernel)) ggX2_cancel_X1_freeSeatsOf
set_option maxRecDepth 20000 in
theorem ggX2_cancel_X2_tryThoseWaiting : GoodIn wsX2_cancel wsX2_tryThoseWaiting := goodIn_r _ [19, 20, 21, 8, 22, 23, 24, 6, 25, 26, 27, 28, 29, 30, 31, 32, 2, 33, 34, 35, 36, 37, 38, 39, 40, 41, 42, 43, 44, 45, 46, 47, 48, 49, 50, 12, 51, 14, 52, 53, 54, 55, 56, 15, 57, 58, 59, 60, 61, 62, 63, 64, 65, 66, 67, 68, 69, 70, 71, 72, 73, 74, 75, 76, 77, 78, 79, 80, 86, 87, 88, 89, 81, 82, 83, 84, 85] (by decide +kernel) (by decide +kernel)
set_option maxRecDepth 20000 in
theorem gX2_cancel_X2_tryThoseWaiting : GoodIn wsX2_cancel (wsV RX2 43 RX2 yX2_tryThoseWaiting wsX2_tryThoseWaiting) := goodIn_app (goodIn_of _ (by decide +kernel)) ggX2_cancel_X2_tryThoseWaiting
set_option maxRecDepth 20000 in
theorem ggX2_leave_X2_isWaiting : GoodIn wsX2_leave wsX2_isWaiting := goodIn_r _ [8, 2, 9, 10, 11, 12, 13, 14, 15, 16] (by decide +kernel) (by decide +kernel)
set_option maxRecDepth 20000 in
theorem gX2_leave_X2_isWaiting : GoodIn wsX2_leave (wsV RX2 89 RX2 yX2_isWaiting wsX2_isWaiting) := goodIn_app (goodIn_of _ (by decide +kernel)) ggX2_leave_X2_isWaiting
set_option maxRecDepth 20000 in
theorem ggX2_seat_X2_isRow : GoodIn wsX2_seat wsX2_isRow := goodIn_r _ [7] (by decide +kernel) (by decide +kernel)
set_option maxRecDepth 20000 in
theorem gX2_seat_X2_isRow : GoodIn wsX2_seat (va_wsS RX2 31 yX2_isRow wsX2_isRow) := goodIn_app (goodIn_of _ (by decide +kernel)) ggX2_seat_X2_isRow
set_option maxRecDepth 20000 in
theorem ggX2_has_X2_isBooking : GoodIn wsX2_has wsX2_isBooking := goodIn_r _ [6, 7, 18, 19, 20, 21, 22, 23, 24, 25] (by decide +kernel) (by decide +kernel)
set_option maxRecDepth 20000 in
theorem gX2_has_X2_isBooking : GoodIn wsX2_has (wsV RX2 83 RX2 yX2_isBooking wsX2_isBooking) := goodIn_app (goodIn_of _ (by decide +kernel)) ggX2_has_X2_isBooking
set_option maxRecDepth 20000 in
theorem ggX2_has_X2_isRow : GoodIn wsX2_has wsX2_isRow := goodIn_r _ [10] (by decide +kernel) (by decide +kernel)
set_option maxRecDepth 20000 in
theorem gX2_has_X2_isRow : GoodIn wsX2_has (va_wsS RX2 31 yX2_isRow wsX2_isRow) := goodIn_app (goodIn_of _ (by decide +kernel)) ggX2_has_X2_isRow
set_option maxRecDepth 20000 in
theorem ggX2_has_X1_seatsOf : GoodIn wsX2_has wsX1_seatsOf := goodIn_r _ [15, 16, 17, 26, 27, 28, 29, 30] (by decide +kernel) (by decide +kernel)
set_option maxRecDepth 20000 in
theorem gX2_has_X1_seatsOf : GoodIn wsX2_has (wsV RX2 47 RX1 yX1_seatsOf wsX1_seatsOf) := goodIn_app (goodIn_of _ (by decide +kernel)) ggX2_has_X1_seatsOf
set_option maxRecDepth 20000 in
theorem ggX2_about_X2_isRow : GoodIn wsX2_about wsX2_isRow := goodIn_r _ [8] (by decide +kernel) (by decide +kernel)
set_option maxRecDepth 20000 in
theorem gX2_about_X2_isRow : GoodIn wsX2_about (va_wsS RX2 31 yX2_isRow wsX2_isRow) := goodIn_app (goodIn_of _ (by decide +kernel)) ggX2_about_X2_isRow
set_option maxRecDepth 20000 in
theorem ggX2_about_X1_isOpen : GoodIn wsX2_about wsX1_isOpen := goodIn_r _ [13, 14, 28, 29, 30, 31, 32] (by decide +kernel) (by decide +kernel)
set_option maxRecDepth 20000 in
theorem gX2_about_X1_isOpen : GoodIn wsX2_about (wsV RX2 35 RX1 yX1_isOpen wsX1_isOpen) := goodIn_app (goodIn_of _ (by decide +kernel)) ggX2_about_X1_isOpen
set_option maxRecDepth 20000 in
theorem ggX2_about_X1_seatsOf : GoodIn wsX2_about wsX1_seatsOf := goodIn_r _ [18, 14, 19, 28, 29, 30, 31, 32] (by decide +kernel) (by decide +kernel)
set_option maxRecDepth 20000 in
theorem gX2_about_X1_seatsOf : GoodIn wsX2_about (wsV RX2 47 RX1 yX1_seatsOf wsX1_seatsOf) := goodIn_app (goodIn_of _ (by decide +kernel)) ggX2_about_X1_seatsOf
set_option maxRecDepth 20000 in
theorem ggX2_told_X2_openRows : GoodIn wsX2_told wsX2_openRows := goodIn_r _ [11, 12, 13, 14, 15, 16, 17, 18, 19, 20, 21, 22, 23, 24, 25, 26, 31, 32, 33, 34, 35] (by decide +kernel) (by decide +kernel)
set_option maxRecDepth 20000 in
theorem gX2_told_X2_openRows : GoodIn wsX2_told (wsV RX2 107 RX2 yX2_openRows wsX2_openRows) := goodIn_app (goodIn_of _ (by decide +kernel)) ggX2_told_X2_openRows
set_option maxRecDepth 20000 in
theorem ggX2_waiting_X2_isWaiting : GoodIn wsX2_waiting wsX2_isWaiting := goodIn_r _ [7, 8, 9, 10, 11, 12, 13, 14, 15, 16] (by decide +kernel) (by decide +kernel)
set_option maxRecDepth 20000 in
theorem gX2_waiting_X2_isWaiting : GoodIn wsX2_waiting (wsV RX2 89 RX2 yX2_isWaiting wsX2_isWaiting) := goodIn_app (goodIn_of _ (by decide +kernel)) ggX2_waiting_X2_isWaiting
set_option maxRecDepth 20000 in
theorem ggX2_openRows_X1_isOpen : GoodIn wsX2_openRows wsX1_isOpen := goodIn_r _ [6, 7, 16, 17, 18, 19, 20] (by decide +kernel) (by decide +kernel)
set_option maxRecDepth 20000 in
theorem gX2_openRows_X1_isOpen : GoodIn wsX2_openRows (wsV RX2 35 RX1 yX1_isOpen wsX1_isOpen) := goodIn_app (goodIn_of _ (by decide +kernel)) ggX2_openRows_X1_isOpen
set_option maxRecDepth 20000 in
theorem ggX2_tryThoseWaiting_X2_goThrough : GoodIn wsX2_tryThoseWaiting wsX2_goThrough := goodIn_r _ [8, 9, 10, 3, 11, 12, 13, 7, 14, 15, 16, 17, 18, 19, 20, 21, 22, 23, 24, 25, 26, 27, 28, 29, 30, 31, 32, 33, 34, 35, 36, 37, 38, 39, 40, 41, 42, 43, 44, 45, 46, 47, 48, 49, 50, 51, 52, 53, 54, 55, 56, 57, 58, 59, 68, 69, 70, 71, 60, 61, 62, 63, 64, 65, 66, 67, 72, 73, 74, 75, 76] (by decide +kernel) (by decide +kernel)
set_option maxRecDepth 20000 in
theorem gX2_tryThoseWaiting_X2_goThrough : GoodIn wsX2_tryThoseWaiting (wsV RX2 73 RX2 yX2_goThrough wsX2_goThrough) := goodIn_app (goodIn_of _ (by decide +kernel)) ggX2_tryThoseWaiting_X2_goThrough
set_option maxRecDepth 20000 in
theorem ggX2_goThrough_X2_goOn : GoodIn wsX2_goThrough wsX2_goOn := goodIn_r _ [8, 9, 1, 10, 11, 12, 13, 14, 15, 16, 17, 3, 18, 19, 20, 7, 21, 22, 23, 24, 25, 26, 27, 28, 29, 30, 31, 32, 33, 34, 35, 36, 37, 38, 39, 40, 41, 42, 43, 44, 45, 46, 47, 48, 4, 5, 6, 49, 50, 51, 52, 53, 54, 55, 56, 57, 58, 59, 60, 61, 62, 63, 64, 65, 66, 67, 68, 69, 70] (by decide +kernel) (by decide +kernel)
set_option maxRecDepth 20000 in
theorem gX2_goThrough_X2_goOn : GoodIn wsX2_goThrough (wsV RX2 110 RX2 yX2_goOn wsX2_goOn) := goodIn_app (goodIn_of _ (by decide +kernel)) ggX2_goThrough_X2_goOn
set_option maxRecDepth 20000 in
theorem ggX2_goOn_X2_obstacleAt : GoodIn wsX2_goOn wsX2_obstacleAt := goodIn_r _ [16, 17, 4, 3, 18, 19, 15, 20, 21, 22, 23, 24, 25, 26, 52, 53, 54, 55, 56, 57, 58, 59, 60, 61, 62, 63, 64, 65, 66, 67, 68] (by decide +kernel) (by decide +kernel)
set_option maxRecDepth 20000 in
theorem gX2_goOn_X2_obstacleAt : GoodIn wsX2_goOn (wsV RX2 114 RX2 yX2_obstacleAt wsX2_obstacleAt) := goodIn_app (goodIn_of _ (by decide +kernel)) ggX2_goOn_X2_obstacleAt
set_option maxRecDepth 20000 in
theorem ggX2_goOn_X1_take : GoodIn wsX2_goOn wsX1_take := goodIn_r _ [30, 31, 26, 32, 33, 34, 35, 24, 36, 64, 65, 66, 67, 68] (by decide +kernel) (by decide +kernel)
set_option maxRecDepth 20000 in
theorem gX2_goOn_X1_take : GoodIn wsX2_goOn (wsV RX2 124 RX1 yX1_take wsX1_take) := goodIn_app (goodIn_of _ (by decide +kernel)) ggX2_goOn_X1_take
set_option maxRecDepth 20000 in
theorem ggX2_goOn_J6_bitCount_0f7a4 : GoodIn wsX2_goOn wsJ6_bitCount_0f7a4 := goodIn_r _ [40, 41, 42, 43] (by decide +kernel) (by decide +kernel)
set_option maxRecDepth 20000 in
theorem gX2_goOn_J6_bitCount_0f7a4 : GoodIn wsX2_goOn (va_wsS RX2 127 yJ6_bitCount_0f7a4 wsJ6_bitCount_0f7a4) := goodIn_app (goodIn_of _ (by decide +kernel)) ggX2_goOn_J6_bitCount_0f7a4
set_option maxRecDepth 20000 in
theorem ggX2_goOn_X2_goOn : GoodIn wsX2_goOn wsX2_goOn := goodIn_r _ [0, 1, 2, 3, 4, 5, 6, 7, 8, 9, 10, 11, 12, 13, 14, 15, 16, 17, 18, 19, 20, 21, 22, 23, 24, 25, 26, 27, 28, 29, 30, 31, 32, 33, 34, 35, 36, 37, 38, 39, 40, 41, 42, 43, 44, 45, 46, 47, 48, 49, 50, 51, 52, 53, 54, 55, 56, 57, 58, 59, 60, 61, 62, 63, 64, 65, 66, 67, 68] (by decide +kernel) (by decide +kernel)
set_option maxRecDepth 20000 in
theorem gX2_goOn_X2_goOn : GoodIn wsX2_goOn (wsV RX2 110 RX2 yX2_goOn wsX2_goOn) := goodIn_app (goodIn_of _ (by decide +kernel)) ggX2_goOn_X2_goOn
set_option maxRecDepth 20000 in
theorem ggX2_goOn_X1_giveBack : GoodIn wsX2_goOn wsX1_giveBack := goodIn_r _ [50, 51, 26, 32, 64, 65, 66, 67, 68] (by decide +kernel) (by decide +kernel)
set_option maxRecDepth 20000 in
theorem gX2_goOn_X1_giveBack : GoodIn wsX2_goOn (wsV RX2 132 RX1 yX1_giveBack wsX1_giveBack) := goodIn_app (goodIn_of _ (by decide +kernel)) ggX2_goOn_X1_giveBack
set_option maxRecDepth 20000 in
theorem ggX2_obstacleAt_X2_isRow : GoodIn wsX2_obstacleAt wsX2_isRow := goodIn_r _ [7] (by decide +kernel) (by decide +kernel)
set_option maxRecDepth 20000 in
theorem gX2_obstacleAt_X2_isRow : GoodIn wsX2_obstacleAt (va_wsS RX2 31 yX2_isRow wsX2_isRow) := goodIn_app (goodIn_of _ (by decide +kernel)) ggX2_obstacleAt_X2_isRow
set_option maxRecDepth 20000 in
theorem ggX2_obstacleAt_X1_isOpen : GoodIn wsX2_obstacleAt wsX1_isOpen := goodIn_r _ [12, 13, 26, 27, 28, 29, 30] (by decide +kernel) (by decide +kernel)
set_option maxRecDepth 20000 in
theorem gX2_obstacleAt_X1_isOpen : GoodIn wsX2_obstacleAt (wsV RX2 35 RX1 yX1_isOpen wsX1_isOpen) := goodIn_app (goodIn_of _ (by decide +kernel)) ggX2_obstacleAt_X1_isOpen
set_option maxRecDepth 20000 in
theorem ggX3_takes_X3_mark : GoodIn wsX3_takes wsX3_mark := goodIn_r _ [7, 8, 9, 10, 15, 16, 17, 18, 19, 20, 21, 22, 23, 24, 25, 26, 27, 28, 29, 30, 31, 32, 33, 34, 35] (by decide +kernel) (by decide +kernel)
set_option maxRecDepth 20000 in
theorem gX3_takes_X3_mark : GoodIn wsX3_takes (wsV RX3 60 RX3 yX3_mark wsX3_mark) := goodIn_app (goodIn_of _ (by decide +kernel)) ggX3_takes_X3_mark
set_option maxRecDepth 20000 in
theorem ggX3_takes_X3_stretch : GoodIn wsX3_takes wsX3_stretch := goodIn_r _ [14, 2, 8, 9, 15, 16, 17, 18, 19, 20, 21, 22, 23, 24, 25, 26, 27, 28, 29, 30, 31, 32, 33, 34, 35] (by decide +kernel) (by decide +kernel)
set_option maxRecDepth 20000 in
theorem gX3_takes_X3_stretch : GoodIn wsX3_takes (wsV RX3 64 RX3 yX3_stretch wsX3_stretch) := goodIn_app (goodIn_of _ (by decide +kernel)) ggX3_takes_X3_stretch
set_option maxRecDepth 20000 in
theorem ggX3_goes_X3_takes : GoodIn wsX3_goes wsX3_takes := goodIn_r _ [13, 14, 15, 16, 17, 18, 12, 19, 20, 21, 7, 22, 23, 24, 25, 31, 32, 33, 34, 35, 36, 37, 38, 39, 40, 41, 42, 43, 44, 45, 46, 47, 48, 49, 50, 51] (by decide +kernel) (by decide +kernel)
set_option maxRecDepth 20000 in
theorem gX3_goes_X3_takes : GoodIn wsX3_goes (wsV RX3 71 RX3 yX3_takes wsX3_takes) := goodIn_app (goodIn_of _ (by decide +kernel)) ggX3_goes_X3_takes
set_option maxRecDepth 20000 in
theorem ggX3_goes_X3_giveBack : GoodIn wsX3_goes wsX3_giveBack := goodIn_r _ [29, 30, 2, 5, 21, 7, 31, 32, 33, 34, 35, 36, 37, 38, 39, 40, 41, 42, 43, 44, 45, 46, 47, 48, 49, 50, 51] (by decide +kernel) (by decide +kernel)
set_option maxRecDepth 20000 in
theorem gX3_goes_X3_giveBack : GoodIn wsX3_goes (wsV RX3 77 RX3 yX3_giveBack wsX3_giveBack) := goodIn_app (goodIn_of _ (by decide +kernel)) ggX3_goes_X3_giveBack
set_option maxRecDepth 20000 in
theorem ggX3_tried_X3_goes : GoodIn wsX3_tried wsX3_goes := goodIn_r _ [12, 4, 5, 13, 14, 15, 16, 2, 17, 18, 19, 20, 11, 21, 22, 23, 24, 25, 26, 27, 28, 29, 30, 31, 32, 33, 34, 35, 36, 37, 38, 43, 44, 45, 46, 47, 48, 49, 50, 51, 52, 53, 54, 55, 56, 57, 58, 59, 60, 61, 62, 63] (by decide +kernel) (by decide +kernel)
set_option maxRecDepth 20000 in
theorem gX3_tried_X3_goes : GoodIn wsX3_tried (wsV RX3 87 RX3 yX3_goes wsX3_goes) := goodIn_app (goodIn_of _ (by decide +kernel)) ggX3_tried_X3_goes
set_option maxRecDepth 20000 in
theorem ggX3_tried_X3_removed : GoodIn wsX3_tried wsX3_removed := goodIn_r _ [42, 1, 7, 3, 6, 43, 44, 45, 46, 47, 48, 49, 50, 51, 52, 53, 54, 55, 56, 57, 58, 59, 60, 61, 62, 63] (by decide +kernel) (by decide +kernel)
set_option maxRecDepth 20000 in
theorem gX3_tried_X3_removed : GoodIn wsX3_tried (wsV RX3 90 RX3 yX3_removed wsX3_removed) := goodIn_app (goodIn_of _ (by decide +kernel)) ggX3_tried_X3_removed
set_option maxRecDepth 20000 in
theorem ggX3_open_X3_in : GoodIn wsX3_open wsX3_in := goodIn_r _ [11] (by decide +kernel) (by decide +kernel)
set_option maxRecDepth 20000 in
theorem gX3_open_X3_in : GoodIn wsX3_open (va_wsS RX3 93 yX3_in wsX3_in) := goodIn_app (goodIn_of _ (by decide +kernel)) ggX3_open_X3_in
set_option maxRecDepth 20000 in
theorem ggX3_open_X3_tried : GoodIn wsX3_open wsX3_tried := goodIn_r _ [15, 16, 17, 18, 19, 20, 21, 22, 23, 24, 25, 10, 26, 2, 5, 27, 28, 29, 30, 31, 32, 33, 3, 34, 35, 36, 37, 38, 4, 7, 39, 40, 41, 42, 43, 44, 45, 46, 6, 47, 48, 49, 50, 51, 52, 53, 54, 55, 56, 57, 58, 59, 60, 61, 62, 63, 64, 65, 66, 67, 68, 69, 70, 71] (by decide +kernel) (by decide +kernel)
set_option maxRecDepth 20000 in
theorem gX3_open_X3_tried : GoodIn wsX3_open (wsV RX3 97 RX3 yX3_tried wsX3_tried) := goodIn_app (goodIn_of _ (by decide +kernel)) ggX3_open_X3_tried
set_option maxRecDepth 20000 in
theorem ggX3_shut_X3_in : GoodIn wsX3_shut wsX3_in := goodIn_r _ [7] (by decide +kernel) (by decide +kernel)
set_option maxRecDepth 20000 in
theorem gX3_shut_X3_in : GoodIn wsX3_shut (va_wsS RX3 93 yX3_in wsX3_in) := goodIn_app (goodIn_of _ (by decide +kernel)) ggX3_shut_X3_in
set_option maxRecDepth 20000 in
theorem ggX3_shut_X3_free : GoodIn wsX3_shut wsX3_free := goodIn_r _ [11, 3, 12, 13, 14, 15, 16, 17, 18, 19, 20, 21, 22, 23, 24, 25, 26, 27, 28, 29, 30, 31, 32, 33] (by decide +kernel) (by decide +kernel)
set_option maxRecDepth 20000 in
theorem gX3_shut_X3_free : GoodIn wsX3_shut (wsV RX3 101 RX3 yX3_free wsX3_free) := goodIn_app (goodIn_of _ (by decide +kernel)) ggX3_shut_X3_free
set_option maxRecDepth 20000 in
theorem ggX3_strict_X3_in : GoodIn wsX3_strict wsX3_in := goodIn_r _ [7] (by decide +kernel) (by decide +kernel)
set_option maxRecDepth 20000 in
theorem gX3_strict_X3_in : GoodIn wsX3_strict (va_wsS RX3 93 yX3_in wsX3_in) := goodIn_app (goodIn_of _ (by decide +kernel)) ggX3_strict_X3_in
set_option maxRecDepth 20000 in
theorem ggX3_list_X3_in : GoodIn wsX3_list wsX3_in := goodIn_r _ [7] (by decide +kernel) (by decide +kernel)
set_option maxRecDepth 20000 in
theorem gX3_list_X3_in : GoodIn wsX3_list (va_wsS RX3 93 yX3_in wsX3_in) := goodIn_app (goodIn_of _ (by decide +kernel)) ggX3_list_X3_in
set_option maxRecDepth 20000 in
theorem ggX3_book_X3_in : GoodIn wsX3_book wsX3_in := goodIn_r _ [14] (by decide +kernel) (by decide +kernel)
set_option maxRecDepth 20000 in
theorem gX3_book_X3_in : GoodIn wsX3_book (va_wsS RX3 93 yX3_in wsX3_in) := goodIn_app (goodIn_of _ (by decide +kernel)) ggX3_book_X3_in
set_option maxRecDepth 20000 in
theorem ggX3_book_X3_goes : GoodIn wsX3_book wsX3_goes := goodIn_r _ [18, 4, 5, 19, 20, 21, 22, 3, 23, 24, 25, 26, 13, 27, 28, 29, 30, 31, 32, 33, 34, 35, 36, 37, 38, 39, 40, 41, 42, 43, 44, 45, 46, 47, 48, 49, 50, 51, 52, 53, 54, 55, 56, 57, 58, 59, 60, 61, 62, 63, 64, 65] (by decide +kernel) (by decide +kernel)
set_option maxRecDepth 20000 in
theorem gX3_book_X3_goes : GoodIn wsX3_book (wsV RX3 87 RX3 yX3_goes wsX3_goes) := goodIn_app (goodIn_of _ (by decide +kernel)) ggX3_book_X3_goes
set_option maxRecDepth 20000 in
theorem ggX3_cancel_X3_in : GoodIn wsX3_cancel wsX3_in := goodIn_r _ [8] (by decide +kernel) (by decide +kernel)
set_option maxRecDepth 20000 in
theorem gX3_cancel_X3_in : GoodIn wsX3_cancel (va_wsS RX3 93 yX3_in wsX3_in) := goodIn_app (goodIn_of _ (by decide +kernel)) ggX3_cancel_X3_in
set_option maxRecDepth 20000 in
theorem ggX3_cancel_X3_tried : GoodIn wsX3_cancel wsX3_tried := goodIn_r _ [12, 13, 2, 14, 15, 16, 17, 18, 19, 20, 21, 7, 22, 23, 24, 25, 26, 27, 28, 29, 30, 31, 32, 33, 34, 35, 36, 37, 38, 4, 39, 40, 41, 42, 43, 44, 45, 46, 47, 48, 49, 50, 51, 52, 53, 54, 55, 56, 57, 58, 59, 60, 61, 62, 63, 64, 65, 66, 67, 68, 69, 70, 71, 72] (by decide +kernel) (by decide +kernel)
set_option maxRecDepth 20000 in
theorem gX3_cancel_X3_tried : GoodIn wsX3_cancel (wsV RX3 97 RX3 yX3_tried wsX3_tried) := goodIn_app (goodIn_of _ (by decide +kernel)) ggX3_cancel_X3_tried
set_option maxRecDepth 20000 in
theorem ggX3_leave_X3_in : GoodIn wsX3_leave wsX3_in := goodIn_r _ [7] (by decide +kernel) (by decide +kernel)
set_option maxRecDepth 20000 in
theorem gX3_leave_X3_in : GoodIn wsX3_leave (va_wsS RX3 93 yX3_in wsX3_in) := goodIn_app (goodIn_of _ (by decide +kernel)) ggX3_leave_X3_in
set_option maxRecDepth 20000 in
theorem ggX3_leave_X3_removed : GoodIn wsX3_leave wsX3_removed := goodIn_r _ [11, 2, 3, 12, 13, 14, 15, 16, 17, 18, 19, 20, 21, 22, 23, 24, 25, 26, 27, 28, 29, 30, 31, 32, 33, 34] (by decide +kernel) (by decide +kernel)
set_option maxRecDepth 20000 in
theorem gX3_leave_X3_removed : GoodIn wsX3_leave (wsV RX3 90 RX3 yX3_removed wsX3_removed) := goodIn_app (goodIn_of _ (by decide +kernel)) ggX3_leave_X3_removed
set_option maxRecDepth 20000 in
theorem ggX3_seat_X3_in : GoodIn wsX3_seat wsX3_in := goodIn_r _ [8] (by decide +kernel) (by decide +kernel)
set_option maxRecDepth 20000 in
theorem gX3_seat_X3_in : GoodIn wsX3_seat (va_wsS RX3 93 yX3_in wsX3_in) := goodIn_app (goodIn_of _ (by decide +kernel)) ggX3_seat_X3_in
set_option maxRecDepth 20000 in
theorem ggX3_has_X3_in : GoodIn wsX3_has wsX3_in := goodIn_r _ [9] (by decide +kernel) (by decide +kernel)
set_option maxRecDepth 20000 in
theorem gX3_has_X3_in : GoodIn wsX3_has (va_wsS RX3 93 yX3_in wsX3_in) := goodIn_app (goodIn_of _ (by decide +kernel)) ggX3_has_X3_in
set_option maxRecDepth 20000 in
theorem ggX3_about_X3_in : GoodIn wsX3_about wsX3_in := goodIn_r _ [9] (by decide +kernel) (by decide +kernel)
set_option maxRecDepth 20000 in
theorem gX3_about_X3_in : GoodIn wsX3_about (va_wsS RX3 93 yX3_in wsX3_in) := goodIn_app (goodIn_of _ (by decide +kernel)) ggX3_about_X3_in
set_option maxRecDepth 20000 in
theorem ggX3_about_X3_free : GoodIn wsX3_about wsX3_free := goodIn_r _ [13, 5, 14, 15, 16, 17, 18, 19, 20, 21, 22, 23, 24, 25, 26, 27, 28, 29, 30, 31, 32, 33, 34, 35] (by decide +kernel) (by decide +kernel)
set_option maxRecDepth 20000 in
theorem gX3_about_X3_free : GoodIn wsX3_about (wsV RX3 101 RX3 yX3_free wsX3_free) := goodIn_app (goodIn_of _ (by decide +kernel)) ggX3_about_X3_free
set_option maxRecDepth 20000 in
theorem ggX3_waiting_X3_in : GoodIn wsX3_waiting wsX3_in := goodIn_r _ [7] (by decide +kernel) (by decide +kernel)
set_option maxRecDepth 20000 in
theorem gX3_waiting_X3_in : GoodIn wsX3_waiting (va_wsS RX3 93 yX3_in wsX3_in) := goodIn_app (goodIn_of _ (by decide +kernel)) ggX3_waiting_X3_in
set_option maxRecDepth 20000 in
theorem ggL_law_X2_init : GoodIn wsL_law wsX2_init := goodIn_r _ [8, 9, 10, 11, 12, 13, 14, 15, 16, 17, 18, 19, 20, 21, 22, 23, 24, 25, 26, 27, 28, 29, 30, 31, 278, 279, 280, 281, 282, 283, 284, 285, 307, 308, 309, 310, 311, 312, 313, 314, 315] (by decide +kernel) (by decide +kernel)
set_option maxRecDepth 20000 in
theorem gL_law_X2_init : GoodIn wsL_law (wsX2_init) := ggL_law_X2_init
set_option maxRecDepth 20000 in
theorem ggL_law_X3_init : GoodIn wsL_law wsX3_init := goodIn_r _ [34, 35, 10, 11, 14, 36, 37, 26, 38, 39, 40, 41, 42, 43, 44, 45, 46, 47, 48, 286, 287, 288, 289, 290, 291, 292, 293, 294, 295, 296, 297, 298, 299, 300, 301, 302, 303, 304, 305, 306] (by decide +kernel) (by decide +kernel)
set_option maxRecDepth 20000 in
theorem gL_law_X3_init : GoodIn wsL_law (wsX3_init) := ggL_law_X3_init
set_option maxRecDepth 20000 in
theorem ggL_law_X2_open : GoodIn wsL_law wsX2_open := goodIn_r _ [52, 13, 53, 54, 2, 55, 56, 57, 58, 22, 59, 60, 61, 62, 63, 64, 65, 66, 31, 67, 68, 69, 70, 71, 17, 72, 73, 74, 75, 76, 77, 78, 79, 80, 81, 82, 83, 84, 85, 86, 87, 88, 89, 90, 91, 92, 93, 94, 95, 96, 97, 98, 99, 100, 101, 102, 103, 104, 105, 106, 107, 108, 109, 110, 111, 112, 113, 114, 278, 279, 280, 281, 282, 283, 284, 285, 311, 312, 313, 314, 315, 307, 308, 309, 310] (by decide +kernel) (by decide +kernel)
set_option maxRecDepth 20000 in
theorem gL_law_X2_open : GoodIn wsL_law (wsV RL 13 RX2 yX2_open wsX2_open) := goodIn_app (goodIn_of _ (by decide +kernel)) ggL_law_X2_open
set_option maxRecDepth 20000 in
theorem ggL_law_X3_open : GoodIn wsL_law wsX3_open := goodIn_r _ [118, 119, 36, 37, 38, 39, 40, 41, 120, 121, 5, 122, 123, 124, 125, 126, 127, 128, 46, 129, 47, 45, 44, 130, 131, 132, 133, 48, 134, 135, 136, 137, 138, 139, 140, 141, 142, 143, 144, 145, 146, 147, 148, 149, 150, 151, 152, 153, 154, 155, 156, 286, 287, 288, 289, 290, 291, 292, 293, 294, 295, 296, 297, 298, 299, 300, 301, 302, 303, 304, 305, 306] (by decide +kernel) (by decide +kernel)
set_option maxRecDepth 20000 in
theorem gL_law_X3_open : GoodIn wsL_law (wsV RL 17 RX3 yX3_open wsX3_open) := goodIn_app (goodIn_of _ (by decide +kernel)) ggL_law_X3_open
set_option maxRecDepth 20000 in
theorem ggL_law_X2_shut : GoodIn wsL_law wsX2_shut := goodIn_r _ [160, 13, 161, 53, 54, 2, 55, 56, 57, 58, 22, 59, 60, 162, 163, 164, 165, 31, 278, 279, 280, 281, 282, 283, 284, 285, 311, 312, 313, 314, 315] (by decide +kernel) (by decide +kernel)
set_option maxRecDepth 20000 in
theorem gL_law_X2_shut : GoodIn wsL_law (wsV RL 18 RX2 yX2_shut wsX2_shut) := goodIn_app (goodIn_of _ (by decide +kernel)) ggL_law_X2_shut
set_option maxRecDepth 20000 in
theorem ggL_law_X3_shut : GoodIn wsL_law wsX3_shut := goodIn_r _ [169, 119, 36, 38, 120, 121, 5, 122, 170, 171, 172, 173, 41, 286, 287, 288, 289, 290, 291, 292, 293, 294, 295, 296, 297, 298, 299, 300, 301, 302, 303, 304, 305, 306] (by decide +kernel) (by decide +kernel)
set_option maxRecDepth 20000 in
theorem gL_law_X3_shut : GoodIn wsL_law (wsV RL 22 RX3 yX3_shut wsX3_shut) := goodIn_app (goodIn_of _ (by decide +kernel)) ggL_law_X3_shut
set_option maxRecDepth 20000 in
theorem ggL_law_X2_strict : GoodIn wsL_law wsX2_strict := goodIn_r _ [177, 13, 178, 53, 54, 2, 55, 56, 57, 58, 22, 59, 60, 278, 279, 280, 281, 282, 283, 284, 285, 311, 312, 313, 314, 315] (by decide +kernel) (by decide +kernel)
set_option maxRecDepth 20000 in
theorem gL_law_X2_strict : GoodIn wsL_law (wsV RL 23 RX2 yX2_strict wsX2_strict) := goodIn_app (goodIn_of _ (by decide +kernel)) ggL_law_X2_strict
set_option maxRecDepth 20000 in
theorem ggL_law_X3_strict : GoodIn wsL_law wsX3_strict := goodIn_r _ [182, 119, 36, 37, 120, 121, 5, 122, 286, 287, 288, 289, 290, 291, 292, 293, 294, 295, 296, 297, 298, 299, 300, 301, 302, 303, 304, 305, 306] (by decide +kernel) (by decide +kernel)
set_option maxRecDepth 20000 in
theorem gL_law_X3_strict : GoodIn wsL_law (wsV RL 27 RX3 yX3_strict wsX3_strict) := goodIn_app (goodIn_of _ (by decide +kernel)) ggL_law_X3_strict
set_option maxRecDepth 20000 in
theorem ggL_law_X2_list : GoodIn wsL_law wsX2_list := goodIn_r _ [186, 20, 95, 84, 278, 279, 280, 281, 282, 283, 284, 285, 307, 308, 309, 310] (by decide +kernel) (by decide +kernel)
set_option maxRecDepth 20000 in
theorem gL_law_X2_list : GoodIn wsL_law (wsV RL 28 RX2 yX2_list wsX2_list) := goodIn_app (goodIn_of _ (by decide +kernel)) ggL_law_X2_list
set_option maxRecDepth 20000 in
theorem ggL_law_X3_list : GoodIn wsL_law wsX3_list := goodIn_r _ [190, 119, 191, 42, 120, 121, 5, 122, 286, 287, 288, 289, 290, 291, 292, 293, 294, 295, 296, 297, 298, 299, 300, 301, 302, 303, 304, 305, 306] (by decide +kernel) (by decide +kernel)
set_option maxRecDepth 20000 in
theorem gL_law_X3_list : GoodIn wsL_law (wsV RL 31 RX3 yX3_list wsX3_list) := goodIn_app (goodIn_of _ (by decide +kernel)) ggL_law_X3_list
set_option maxRecDepth 20000 in
theorem ggL_law_X2_book : GoodIn wsL_law wsX2_book := goodIn_r _ [195, 20, 95, 72, 77, 83, 71, 73, 74, 75, 2, 76, 78, 79, 80, 81, 82, 13, 84, 85, 86, 87, 88, 89, 90, 91, 92, 93, 94, 53, 54, 55, 56, 57, 58, 22, 59, 60, 96, 97, 98, 99, 65, 31, 100, 101, 102, 103, 104, 105, 106, 107, 108, 109, 110, 111, 112, 113, 114, 66, 196, 197, 198, 199, 17, 278, 279, 280, 281, 282, 283, 284, 285, 307, 308, 309, 310, 311, 312, 313, 314, 315] (by decide +kernel) (by decide +kernel)
set_option maxRecDepth 20000 in
theorem gL_law_X2_book : GoodIn wsL_law (wsV RL 32 RX2 yX2_book wsX2_book) := goodIn_app (goodIn_of _ (by decide +kernel)) ggL_law_X2_book
set_option maxRecDepth 20000 in
theorem ggL_law_X3_book : GoodIn wsL_law wsX3_book := goodIn_r _ [203, 119, 191, 128, 129, 47, 42, 127, 44, 46, 45, 120, 121, 5, 122, 130, 131, 132, 133, 36, 39, 48, 134, 135, 136, 137, 138, 139, 37, 140, 141, 142, 143, 144, 38, 41, 145, 146, 147, 148, 149, 150, 151, 152, 40, 286, 287, 288, 289, 290, 291, 292, 293, 294, 295, 296, 297, 298, 299, 300, 301, 302, 303, 304, 305, 306] (by decide +kernel) (by decide +kernel)
set_option maxRecDepth 20000 in
theorem gL_law_X3_book : GoodIn wsL_law (wsV RL 35 RX3 yX3_book wsX3_book) := goodIn_app (goodIn_of _ (by decide +kernel)) ggL_law_X3_book
set_option maxRecDepth 20000 in
theorem ggL_law_X2_cancel : GoodIn wsL_law wsX2_cancel := goodIn_r _ [207, 15, 13, 208, 209, 210, 2, 211, 72, 212, 213, 214, 22, 215, 60, 31, 67, 68, 69, 70, 71, 17, 73, 74, 75, 76, 77, 78, 79, 80, 81, 82, 83, 84, 85, 86, 87, 88, 89, 90, 91, 92, 93, 94, 95, 53, 54, 55, 56, 57, 58, 59, 96, 97, 98, 99, 65, 100, 101, 102, 103, 104, 105, 106, 107, 108, 109, 110, 111, 112, 113, 114, 66, 278, 279, 280, 281, 282, 283, 284, 285, 311, 312, 313, 314, 315, 307, 308, 309, 310] (by decide +kernel) (by decide +kernel)
set_option maxRecDepth 20000 in
theorem gL_law_X2_cancel : GoodIn wsL_law (wsV RL 36 RX2 yX2_cancel wsX2_cancel) := goodIn_app (goodIn_of _ (by decide +kernel)) ggL_law_X2_cancel
set_option maxRecDepth 20000 in
theorem ggL_law_X3_cancel : GoodIn wsL_law wsX3_cancel := goodIn_r _ [219, 119, 128, 43, 41, 120, 121, 5, 122, 123, 124, 125, 126, 127, 46, 129, 47, 45, 44, 130, 131, 132, 133, 36, 39, 48, 134, 135, 136, 137, 138, 139, 37, 140, 141, 142, 143, 144, 38, 145, 146, 147, 148, 149, 150, 151, 152, 40, 153, 154, 155, 156, 286, 287, 288, 289, 290, 291, 292, 293, 294, 295, 296, 297, 298, 299, 300, 301, 302, 303, 304, 305, 306] (by decide +kernel) (by decide +kernel)
set_option maxRecDepth 20000 in
theorem gL_law_X3_cancel : GoodIn wsL_law (wsV RL 39 RX3 yX3_cancel wsX3_cancel) := goodIn_app (goodIn_of _ (by decide +kernel)) ggL_law_X3_cancel
set_option maxRecDepth 20000 in
theorem ggL_law_X2_leave : GoodIn wsL_law wsX2_leave := goodIn_r _ [223, 17, 71, 77, 224, 225, 226, 2, 227, 278, 279, 280, 281, 282, 283, 284, 285, 307, 308, 309, 310] (by decide +kernel) (by decide +kernel)
set_option maxRecDepth 20000 in
theorem gL_law_X2_leave : GoodIn wsL_law (wsV RL 40 RX2 yX2_leave wsX2_leave) := goodIn_app (goodIn_of _ (by decide +kernel)) ggL_law_X2_leave
set_option maxRecDepth 20000 in
theorem ggL_law_X3_leave : GoodIn wsL_law wsX3_leave := goodIn_r _ [231, 119, 127, 44, 120, 121, 5, 122, 153, 154, 155, 156, 46, 45, 286, 287, 288, 289, 290, 291, 292, 293, 294, 295, 296, 297, 298, 299, 300, 301, 302, 303, 304, 305, 306] (by decide +kernel) (by decide +kernel)
set_option maxRecDepth 20000 in
theorem gL_law_X3_leave : GoodIn wsL_law (wsV RL 43 RX3 yX3_leave wsX3_leave) := goodIn_app (goodIn_of _ (by decide +kernel)) ggL_law_X3_leave
set_option maxRecDepth 20000 in
theorem ggL_law_X2_seat : GoodIn wsL_law wsX2_seat := goodIn_r _ [235, 13, 161, 236, 53, 54, 2, 55, 278, 279, 280, 281, 282, 283, 284, 285, 311, 312, 313, 314, 315] (by decide +kernel) (by decide +kernel)
set_option maxRecDepth 20000 in
theorem gL_law_X2_seat : GoodIn wsL_law (wsV RL 44 RX2 yX2_seat wsX2_seat) := goodIn_app (goodIn_of _ (by decide +kernel)) ggL_law_X2_seat
set_option maxRecDepth 20000 in
theorem ggL_law_X3_seat : GoodIn wsL_law wsX3_seat := goodIn_r _ [240, 119, 36, 38, 41, 120, 121, 5, 122, 286, 287, 288, 289, 290, 291, 292, 293, 294, 295, 296, 297, 298, 299, 300, 301, 302, 303, 304, 305, 306] (by decide +kernel) (by decide +kernel)
set_option maxRecDepth 20000 in
theorem gL_law_X3_seat : GoodIn wsL_law (wsV RL 47 RX3 yX3_seat wsX3_seat) := goodIn_app (goodIn_of _ (by decide +kernel)) ggL_law_X3_seat
set_option maxRecDepth 20000 in
theorem ggL_law_X2_has : GoodIn wsL_law wsX2_has := goodIn_r _ [244, 13, 208, 209, 210, 2, 211, 72, 53, 54, 55, 162, 163, 164, 22, 165, 60, 31, 278, 279, 280, 281, 282, 283, 284, 285, 311, 312, 313, 314, 315] (by decide +kernel) (by decide +kernel)
set_option maxRecDepth 20000 in
theorem gL_law_X2_has : GoodIn wsL_law (wsV RL 48 RX2 yX2_has wsX2_has) := goodIn_app (goodIn_of _ (by decide +kernel)) ggL_law_X2_has
set_option maxRecDepth 20000 in
theorem ggL_law_X3_has : GoodIn wsL_law wsX3_has := goodIn_r _ [248, 119, 128, 36, 38, 41, 120, 121, 5, 122, 286, 287, 288, 289, 290, 291, 292, 293, 294, 295, 296, 297, 298, 299, 300, 301, 302, 303, 304, 305, 306] (by decide +kernel) (by decide +kernel)
set_option maxRecDepth 20000 in
theorem gL_law_X3_has : GoodIn wsL_law (wsV RL 51 RX3 yX3_has wsX3_has) := goodIn_app (goodIn_of _ (by decide +kernel)) ggL_law_X3_has
set_option maxRecDepth 20000 in
theorem ggL_law_X2_about : GoodIn wsL_law wsX2_about := goodIn_r _ [252, 13, 85, 253, 161, 53, 54, 2, 55, 56, 57, 58, 22, 59, 60, 162, 163, 164, 165, 31, 278, 279, 280, 281, 282, 283, 284, 285, 311, 312, 313, 314, 315] (by decide +kernel) (by decide +kernel)
set_option maxRecDepth 20000 in
theorem gL_law_X2_about : GoodIn wsL_law (wsV RL 52 RX2 yX2_about wsX2_about) := goodIn_app (goodIn_of _ (by decide +kernel)) ggL_law_X2_about
set_option maxRecDepth 20000 in
theorem ggL_law_X3_about : GoodIn wsL_law wsX3_about := goodIn_r _ [257, 119, 36, 39, 40, 38, 120, 121, 5, 122, 170, 171, 172, 173, 41, 286, 287, 288, 289, 290, 291, 292, 293, 294, 295, 296, 297, 298, 299, 300, 301, 302, 303, 304, 305, 306] (by decide +kernel) (by decide +kernel)
set_option maxRecDepth 20000 in
theorem gL_law_X3_about : GoodIn wsL_law (wsV RL 55 RX3 yX3_about wsX3_about) := goodIn_app (goodIn_of _ (by decide +kernel)) ggL_law_X3_about
set_option maxRecDepth 20000 in
theorem ggL_law_X2_told : GoodIn wsL_law wsX2_told := goodIn_r _ [261, 72, 71, 86, 78, 20, 95, 262, 263, 264, 2, 265, 13, 56, 57, 58, 22, 59, 60, 278, 279, 280, 281, 282, 283, 284, 285, 307, 308, 309, 310, 311, 312, 313, 314, 315] (by decide +kernel) (by decide +kernel)
set_option maxRecDepth 20000 in
theorem gL_law_X2_told : GoodIn wsL_law (wsV RL 56 RX2 yX2_told wsX2_told) := goodIn_app (goodIn_of _ (by decide +kernel)) ggL_law_X2_told
set_option maxRecDepth 20000 in
theorem ggL_law_X3_told : GoodIn wsL_law wsX3_told := goodIn_r _ [269, 119, 36, 128, 127, 134, 135, 191, 286, 287, 288, 289, 290, 291, 292, 293, 294, 295, 296, 297, 298, 299, 300, 301, 302, 303, 304, 305, 306] (by decide +kernel) (by decide +kernel)
set_option maxRecDepth 20000 in
theorem gL_law_X3_told : GoodIn wsL_law (wsV RL 59 RX3 yX3_told wsX3_told) := goodIn_app (goodIn_of _ (by decide +kernel)) ggL_law_X3_told
set_option maxRecDepth 20000 in
theorem ggL_law_X2_waiting : GoodIn wsL_law wsX2_waiting := goodIn_r _ [273, 17, 77, 224, 225, 226, 2, 227, 71, 278, 279, 280, 281, 282, 283, 284, 285, 307, 308, 309, 310] (by decide +kernel) (by decide +kernel)
set_option maxRecDepth 20000 in
theorem gL_law_X2_waiting : GoodIn wsL_law (wsV RL 60 RX2 yX2_waiting wsX2_waiting) := goodIn_app (goodIn_of _ (by decide +kernel)) ggL_law_X2_waiting
set_option maxRecDepth 20000 in
theorem ggL_law_X3_waiting : GoodIn wsL_law wsX3_waiting := goodIn_r _ [277, 119, 127, 44, 120, 121, 5, 122, 286, 287, 288, 289, 290, 291, 292, 293, 294, 295, 296, 297, 298, 299, 300, 301, 302, 303, 304, 305, 306] (by decide +kernel) (by decide +kernel)
set_option maxRecDepth 20000 in
theorem gL_law_X3_waiting : GoodIn wsL_law (wsV RL 63 RX3 yX3_waiting wsX3_waiting) := goodIn_app (goodIn_of _ (by decide +kernel)) ggL_law_X3_waiting
abbrev vwCl : List vw_C := [(RX0, TX0, 4), (RX1, TX1, 5), (RX2, TX2, 8), (RX3, TX3, 21)]
end
section
theorem dX0_init_0 : decode cX0_init 0 = .ok (.aload_n 0, 1) := by decide +kernel
theorem dX0_init_1 : decode cX0_init 1 = .ok (.invokespecial 3, 3) := by decide +kernel
theorem dX0_init_4 : decode cX0_init 4 = .ok (.aload_n 0, 1) := by decide +kernel
theorem dX0_init_5 : decode cX0_init 5 = .ok (.bipush 6, 2) := by decide +kernel
theorem dX0_init_7 : decode cX0_init 7 = .ok (.newarray .int, 2) := by decide +kernel
theorem dX0_init_9 : decode cX0_init 9 = .ok (.putfield 9, 3) := by decide +kernel
theorem dX0_init_12 : decode cX0_init 12 = .ok (.return_, 1) := by decide +kernel
theorem dX1_init_0 : decode cX1_init 0 = .ok (.aload_n 0, 1) := by decide +kernel
theorem dX1_init_1 : decode cX1_init 1 = .ok (.invokespecial 3, 3) := by decide +kernel
theorem dX1_init_4 : decode cX1_init 4 = .ok (.aload_n 0, 1) := by decide +kernel
theorem dX1_init_5 : decode cX1_init 5 = .ok (.bipush 20, 2) := by decide +kernel
theorem dX1_init_7 : decode cX1_init 7 = .ok (.newarray .int, 2) := by decide +kernel
theorem dX1_init_9 : decode cX1_init 9 = .ok (.putfield 9, 3) := by decide +kernel
theorem dX1_init_12 : decode cX1_init 12 = .ok (.return_, 1) := by decide +kernel
theorem dX1_isOpen_0 : decode cX1_isOpen 0 = .ok (.aload_n 0, 1) := by decide +kernel
theorem dX1_isOpen_1 : decode cX1_isOpen 1 = .ok (.getfield 15, 3) := by decide +kernel
theorem dX1_isOpen_4 : decode cX1_isOpen 4 = .ok (.ifCond .le 7, 3) := by decide +kernel
theorem dX1_isOpen_7 : decode cX1_isOpen 7 = .ok (.iconst 1, 1) := by decide +kernel
theorem dX1_isOpen_8 : decode cX1_isOpen 8 = .ok (.goto 4, 3) := by decide +kernel
theorem dX1_isOpen_11 : decode cX1_isOpen 11 = .ok (.iconst 0, 1) := by decide +kernel
theorem dX1_isOpen_12 : decode cX1_isOpen 12 = .ok (.ireturn, 1) := by decide +kernel
theorem dX1_begin_0 : decode cX1_begin 0 = .ok (.aload_n 0, 1) := by decide +kernel
theorem dX1_begin_1 : decode cX1_begin 1 = .ok (.iload_n 1, 1) := by decide +kernel
theorem dX1_begin_2 : decode cX1_begin 2 = .ok (.putfield 15, 3) := by decide +kernel
theorem dX1_begin_5 : decode cX1_begin 5 = .ok (.aload_n 0, 1) := by decide +kernel
theorem dX1_begin_6 : decode cX1_begin 6 = .ok (.iconst 0, 1) := by decide +kernel
theorem dX1_begin_7 : decode cX1_begin 7 = .ok (.putfield 19, 3) := by decide +kernel
theorem dX1_begin_10 : decode cX1_begin 10 = .ok (.aload_n 0, 1) := by decide +kernel
theorem dX1_begin_11 : decode cX1_begin 11 = .ok (.iconst 0, 1) := by decide +kernel
theorem dX1_begin_12 : decode cX1_begin 12 = .ok (.putfield 23, 3) := by decide +kernel
theorem dX1_begin_15 : decode cX1_begin 15 = .ok (.iconst 0, 1) := by decide +kernel
theorem dX1_begin_16 : decode cX1_begin 16 = .ok (.istore_n 2, 1) := by decide +kernel
theorem dX1_begin_17 : decode cX1_begin 17 = .ok (.iload_n 2, 1) := by decide +kernel
theorem dX1_begin_18 : decode cX1_begin 18 = .ok (.bipush 20, 2) := by decide +kernel
theorem dX1_begin_20 : decode cX1_begin 20 = .ok (.if_icmp .ge 17, 3) := by decide +kernel
theorem dX1_begin_23 : decode cX1_begin 23 = .ok (.aload_n 0, 1) := by decide +kernel
theorem dX1_begin_24 : decode cX1_begin 24 = .ok (.getfield 9, 3) := by decide +kernel
theorem dX1_begin_27 : decode cX1_begin 27 = .ok (.iload_n 2, 1) := by decide +kernel
theorem dX1_begin_28 : decode cX1_begin 28 = .ok (.bipush (-8), 2) := by decide +kernel
theorem dX1_begin_30 : decode cX1_begin 30 = .ok (.iastore, 1) := by decide +kernel
theorem dX1_begin_31 : decode cX1_begin 31 = .ok (.iinc 2 1, 3) := by decide +kernel
theorem dX1_begin_34 : decode cX1_begin 34 = .ok (.goto (-17), 3) := by decide +kernel
theorem dX1_begin_37 : decode cX1_begin 37 = .ok (.return_, 1) := by decide +kernel
theorem dX1_seatsOf_0 : decode cX1_seatsOf 0 = .ok (.iconst 0, 1) := by decide +kernel
theorem dX1_seatsOf_1 : decode cX1_seatsOf 1 = .ok (.istore_n 2, 1) := by decide +kernel
theorem dX1_seatsOf_2 : decode cX1_seatsOf 2 = .ok (.iconst 0, 1) := by decide +kernel
theorem dX1_seatsOf_3 : decode cX1_seatsOf 3 = .ok (.istore_n 3, 1) := by decide +kernel
theorem dX1_seatsOf_4 : decode cX1_seatsOf 4 = .ok (.iload_n 3, 1) := by decide +kernel
theorem dX1_seatsOf_5 : decode cX1_seatsOf 5 = .ok (.aload_n 0, 1) := by decide +kernel
theorem dX1_seatsOf_6 : decode cX1_seatsOf 6 = .ok (.getfield 15, 3) := by decide +kernel
theorem dX1_seatsOf_9 : decode cX1_seatsOf 9 = .ok (.if_icmp .ge 22, 3) := by decide +kernel
theorem dX1_seatsOf_12 : decode cX1_seatsOf 12 = .ok (.aload_n 0, 1) := by decide +kernel
theorem dX1_seatsOf_13 : decode cX1_seatsOf 13 = .ok (.getfield 9, 3) := by decide +kernel
theorem dX1_seatsOf_16 : decode cX1_seatsOf 16 = .ok (.iload_n 3, 1) := by decide +kernel
theorem dX1_seatsOf_17 : decode cX1_seatsOf 17 = .ok (.iaload, 1) := by decide +kernel
theorem dX1_seatsOf_18 : decode cX1_seatsOf 18 = .ok (.iload_n 1, 1) := by decide +kernel
theorem dX1_seatsOf_19 : decode cX1_seatsOf 19 = .ok (.if_icmp .ne 6, 3) := by decide +kernel
theorem dX1_seatsOf_22 : decode cX1_seatsOf 22 = .ok (.iinc 2 1, 3) := by decide +kernel
theorem dX1_seatsOf_25 : decode cX1_seatsOf 25 = .ok (.iinc 3 1, 3) := by decide +kernel
theorem dX1_seatsOf_28 : decode cX1_seatsOf 28 = .ok (.goto (-24), 3) := by decide +kernel
theorem dX1_seatsOf_31 : decode cX1_seatsOf 31 = .ok (.iload_n 2, 1) := by decide +kernel
theorem dX1_seatsOf_32 : decode cX1_seatsOf 32 = .ok (.ireturn, 1) := by decide +kernel
theorem dX1_freeSeatsOf_0 : decode cX1_freeSeatsOf 0 = .ok (.iconst 0, 1) := by decide +kernel
theorem dX1_freeSeatsOf_1 : decode cX1_freeSeatsOf 1 = .ok (.istore_n 2, 1) := by decide +kernel
theorem dX1_freeSeatsOf_2 : decode cX1_freeSeatsOf 2 = .ok (.iload_n 2, 1) := by decide +kernel
theorem dX1_freeSeatsOf_3 : decode cX1_freeSeatsOf 3 = .ok (.aload_n 0, 1) := by decide +kernel
theorem dX1_freeSeatsOf_4 : decode cX1_freeSeatsOf 4 = .ok (.getfield 15, 3) := by decide +kernel
theorem dX1_freeSeatsOf_7 : decode cX1_freeSeatsOf 7 = .ok (.if_icmp .ge 27, 3) := by decide +kernel
theorem dX1_freeSeatsOf_10 : decode cX1_freeSeatsOf 10 = .ok (.aload_n 0, 1) := by decide +kernel
theorem dX1_freeSeatsOf_11 : decode cX1_freeSeatsOf 11 = .ok (.getfield 9, 3) := by decide +kernel
theorem dX1_freeSeatsOf_14 : decode cX1_freeSeatsOf 14 = .ok (.iload_n 2, 1) := by decide +kernel
theorem dX1_freeSeatsOf_15 : decode cX1_freeSeatsOf 15 = .ok (.iaload, 1) := by decide +kernel
theorem dX1_freeSeatsOf_16 : decode cX1_freeSeatsOf 16 = .ok (.iload_n 1, 1) := by decide +kernel
theorem dX1_freeSeatsOf_17 : decode cX1_freeSeatsOf 17 = .ok (.if_icmp .ne 11, 3) := by decide +kernel
theorem dX1_freeSeatsOf_20 : decode cX1_freeSeatsOf 20 = .ok (.aload_n 0, 1) := by decide +kernel
theorem dX1_freeSeatsOf_21 : decode cX1_freeSeatsOf 21 = .ok (.getfield 9, 3) := by decide +kernel
theorem dX1_freeSeatsOf_24 : decode cX1_freeSeatsOf 24 = .ok (.iload_n 2, 1) := by decide +kernel
theorem dX1_freeSeatsOf_25 : decode cX1_freeSeatsOf 25 = .ok (.bipush (-8), 2) := by decide +kernel
theorem dX1_freeSeatsOf_27 : decode cX1_freeSeatsOf 27 = .ok (.iastore, 1) := by decide +kernel
theorem dX1_freeSeatsOf_28 : decode cX1_freeSeatsOf 28 = .ok (.iinc 2 1, 3) := by decide +kernel
theorem dX1_freeSeatsOf_31 : decode cX1_freeSeatsOf 31 = .ok (.goto (-29), 3) := by decide +kernel
theorem dX1_freeSeatsOf_34 : decode cX1_freeSeatsOf 34 = .ok (.return_, 1) := by decide +kernel
theorem dX1_take_0 : decode cX1_take 0 = .ok (.aload_n 0, 1) := by decide +kernel
theorem dX1_take_1 : decode cX1_take 1 = .ok (.getfield 19, 3) := by decide +kernel
theorem dX1_take_4 : decode cX1_take 4 = .ok (.ifCond .eq 11, 3) := by decide +kernel
theorem dX1_take_7 : decode cX1_take 7 = .ok (.aload_n 0, 1) := by decide +kernel
theorem dX1_take_8 : decode cX1_take 8 = .ok (.iload_n 1, 1) := by decide +kernel
theorem dX1_take_9 : decode cX1_take 9 = .ok (.invokevirtual 26, 3) := by decide +kernel
theorem dX1_take_12 : decode cX1_take 12 = .ok (.goto 4, 3) := by decide +kernel
theorem dX1_take_15 : decode cX1_take 15 = .ok (.iconst 0, 1) := by decide +kernel
theorem dX1_take_16 : decode cX1_take 16 = .ok (.istore_n 3, 1) := by decide +kernel
theorem dX1_take_17 : decode cX1_take 17 = .ok (.iconst 0, 1) := by decide +kernel
theorem dX1_take_18 : decode cX1_take 18 = .ok (.istore 4, 2) := by decide +kernel
theorem dX1_take_20 : decode cX1_take 20 = .ok (.iconst 0, 1) := by decide +kernel
theorem dX1_take_21 : decode cX1_take 21 = .ok (.istore 5, 2) := by decide +kernel
theorem dX1_take_23 : decode cX1_take 23 = .ok (.iload_n 3, 1) := by decide +kernel
theorem dX1_take_24 : decode cX1_take 24 = .ok (.istore 6, 2) := by decide +kernel
theorem dX1_take_26 : decode cX1_take 26 = .ok (.iload 6, 2) := by decide +kernel
theorem dX1_take_28 : decode cX1_take 28 = .ok (.aload_n 0, 1) := by decide +kernel
theorem dX1_take_29 : decode cX1_take 29 = .ok (.getfield 15, 3) := by decide +kernel
theorem dX1_take_32 : decode cX1_take 32 = .ok (.if_icmp .ge 60, 3) := by decide +kernel
theorem dX1_take_35 : decode cX1_take 35 = .ok (.iload 5, 2) := by decide +kernel
theorem dX1_take_37 : decode cX1_take 37 = .ok (.iload_n 1, 1) := by decide +kernel
theorem dX1_take_38 : decode cX1_take 38 = .ok (.if_icmp .ge 54, 3) := by decide +kernel
theorem dX1_take_41 : decode cX1_take 41 = .ok (.aload_n 0, 1) := by decide +kernel
theorem dX1_take_42 : decode cX1_take 42 = .ok (.getfield 9, 3) := by decide +kernel
theorem dX1_take_45 : decode cX1_take 45 = .ok (.iload 6, 2) := by decide +kernel
theorem dX1_take_47 : decode cX1_take 47 = .ok (.iaload, 1) := by decide +kernel
theorem dX1_take_48 : decode cX1_take 48 = .ok (.bipush (-8), 2) := by decide +kernel
theorem dX1_take_50 : decode cX1_take 50 = .ok (.if_icmp .ne 26, 3) := by decide +kernel
theorem dX1_take_53 : decode cX1_take 53 = .ok (.aload_n 0, 1) := by decide +kernel
theorem dX1_take_54 : decode cX1_take 54 = .ok (.getfield 9, 3) := by decide +kernel
theorem dX1_take_57 : decode cX1_take 57 = .ok (.iload 6, 2) := by decide +kernel
theorem dX1_take_59 : decode cX1_take 59 = .ok (.iload_n 2, 1) := by decide +kernel
theorem dX1_take_60 : decode cX1_take 60 = .ok (.iastore, 1) := by decide +kernel
theorem dX1_take_61 : decode cX1_take 61 = .ok (.iload 4, 2) := by decide +kernel
theorem dX1_take_63 : decode cX1_take 63 = .ok (.iconst 1, 1) := by decide +kernel
theorem dX1_take_64 : decode cX1_take 64 = .ok (.iload 6, 2) := by decide +kernel
theorem dX1_take_66 : decode cX1_take 66 = .ok (.ishl, 1) := by decide +kernel
theorem dX1_take_67 : decode cX1_take 67 = .ok (.ior, 1) := by decide +kernel
theorem dX1_take_68 : decode cX1_take 68 = .ok (.istore 4, 2) := by decide +kernel
theorem dX1_take_70 : decode cX1_take 70 = .ok (.iinc 5 1, 3) := by decide +kernel
theorem dX1_take_73 : decode cX1_take 73 = .ok (.goto 13, 3) := by decide +kernel
theorem dX1_take_76 : decode cX1_take 76 = .ok (.aload_n 0, 1) := by decide +kernel
theorem dX1_take_77 : decode cX1_take 77 = .ok (.getfield 19, 3) := by decide +kernel
theorem dX1_take_80 : decode cX1_take 80 = .ok (.ifCond .eq 6, 3) := by decide +kernel
theorem dX1_take_83 : decode cX1_take 83 = .ok (.goto 9, 3) := by decide +kernel
theorem dX1_take_86 : decode cX1_take 86 = .ok (.iinc 6 1, 3) := by decide +kernel
theorem dX1_take_89 : decode cX1_take 89 = .ok (.goto (-63), 3) := by decide +kernel
theorem dX1_take_92 : decode cX1_take 92 = .ok (.iload 4, 2) := by decide +kernel
theorem dX1_take_94 : decode cX1_take 94 = .ok (.ireturn, 1) := by decide +kernel
theorem dX1_bestStretch_0 : decode cX1_bestStretch 0 = .ok (.iconst 0, 1) := by decide +kernel
theorem dX1_bestStretch_1 : decode cX1_bestStretch 1 = .ok (.istore_n 2, 1) := by decide +kernel
theorem dX1_bestStretch_2 : decode cX1_bestStretch 2 = .ok (.iconst 0, 1) := by decide +kernel
theorem dX1_bestStretch_3 : decode cX1_bestStretch 3 = .ok (.istore_n 3, 1) := by decide +kernel
theorem dX1_bestStretch_4 : decode cX1_bestStretch 4 = .ok (.iconst 0, 1) := by decide +kernel
theorem dX1_bestStretch_5 : decode cX1_bestStretch 5 = .ok (.istore 4, 2) := by decide +kernel
theorem dX1_bestStretch_7 : decode cX1_bestStretch 7 = .ok (.iconst 0, 1) := by decide +kernel
theorem dX1_bestStretch_8 : decode cX1_bestStretch 8 = .ok (.istore 5, 2) := by decide +kernel
theorem dX1_bestStretch_10 : decode cX1_bestStretch 10 = .ok (.iload 5, 2) := by decide +kernel
theorem dX1_bestStretch_12 : decode cX1_bestStretch 12 = .ok (.aload_n 0, 1) := by decide +kernel
theorem dX1_bestStretch_13 : decode cX1_bestStretch 13 = .ok (.getfield 15, 3) := by decide +kernel
theorem dX1_bestStretch_16 : decode cX1_bestStretch 16 = .ok (.if_icmp .ge 53, 3) := by decide +kernel
theorem dX1_bestStretch_19 : decode cX1_bestStretch 19 = .ok (.iload_n 3, 1) := by decide +kernel
theorem dX1_bestStretch_20 : decode cX1_bestStretch 20 = .ok (.iload_n 1, 1) := by decide +kernel
theorem dX1_bestStretch_21 : decode cX1_bestStretch 21 = .ok (.if_icmp .ge 48, 3) := by decide +kernel
theorem dX1_bestStretch_24 : decode cX1_bestStretch 24 = .ok (.aload_n 0, 1) := by decide +kernel
theorem dX1_bestStretch_25 : decode cX1_bestStretch 25 = .ok (.getfield 9, 3) := by decide +kernel
theorem dX1_bestStretch_28 : decode cX1_bestStretch 28 = .ok (.iload 5, 2) := by decide +kernel
theorem dX1_bestStretch_30 : decode cX1_bestStretch 30 = .ok (.iaload, 1) := by decide +kernel
theorem dX1_bestStretch_31 : decode cX1_bestStretch 31 = .ok (.bipush (-8), 2) := by decide +kernel
theorem dX1_bestStretch_33 : decode cX1_bestStretch 33 = .ok (.if_icmp .ne 10, 3) := by decide +kernel
theorem dX1_bestStretch_36 : decode cX1_bestStretch 36 = .ok (.iload 4, 2) := by decide +kernel
theorem dX1_bestStretch_38 : decode cX1_bestStretch 38 = .ok (.iconst 1, 1) := by decide +kernel
theorem dX1_bestStretch_39 : decode cX1_bestStretch 39 = .ok (.iadd, 1) := by decide +kernel
theorem dX1_bestStretch_40 : decode cX1_bestStretch 40 = .ok (.goto 4, 3) := by decide +kernel
theorem dX1_bestStretch_43 : decode cX1_bestStretch 43 = .ok (.iconst 0, 1) := by decide +kernel
theorem dX1_bestStretch_44 : decode cX1_bestStretch 44 = .ok (.istore 4, 2) := by decide +kernel
theorem dX1_bestStretch_46 : decode cX1_bestStretch 46 = .ok (.iload 4, 2) := by decide +kernel
theorem dX1_bestStretch_48 : decode cX1_bestStretch 48 = .ok (.iload_n 3, 1) := by decide +kernel
theorem dX1_bestStretch_49 : decode cX1_bestStretch 49 = .ok (.if_icmp .le 14, 3) := by decide +kernel
theorem dX1_bestStretch_52 : decode cX1_bestStretch 52 = .ok (.iload 4, 2) := by decide +kernel
theorem dX1_bestStretch_54 : decode cX1_bestStretch 54 = .ok (.istore_n 3, 1) := by decide +kernel
theorem dX1_bestStretch_55 : decode cX1_bestStretch 55 = .ok (.iload 5, 2) := by decide +kernel
theorem dX1_bestStretch_57 : decode cX1_bestStretch 57 = .ok (.iconst 1, 1) := by decide +kernel
theorem dX1_bestStretch_58 : decode cX1_bestStretch 58 = .ok (.iadd, 1) := by decide +kernel
theorem dX1_bestStretch_59 : decode cX1_bestStretch 59 = .ok (.iload 4, 2) := by decide +kernel
theorem dX1_bestStretch_61 : decode cX1_bestStretch 61 = .ok (.isub, 1) := by decide +kernel
theorem dX1_bestStretch_62 : decode cX1_bestStretch 62 = .ok (.istore_n 2, 1) := by decide +kernel
theorem dX1_bestStretch_63 : decode cX1_bestStretch 63 = .ok (.iinc 5 1, 3) := by decide +kernel
theorem dX1_bestStretch_66 : decode cX1_bestStretch 66 = .ok (.goto (-56), 3) := by decide +kernel
theorem dX1_bestStretch_69 : decode cX1_bestStretch 69 = .ok (.iload_n 2, 1) := by decide +kernel
theorem dX1_bestStretch_70 : decode cX1_bestStretch 70 = .ok (.ireturn, 1) := by decide +kernel
theorem dX1_giveBack_0 : decode cX1_giveBack 0 = .ok (.iload_n 1, 1) := by decide +kernel
theorem dX1_giveBack_1 : decode cX1_giveBack 1 = .ok (.ifCond .ne 4, 3) := by decide +kernel
theorem dX1_giveBack_4 : decode cX1_giveBack 4 = .ok (.return_, 1) := by decide +kernel
theorem dX1_giveBack_5 : decode cX1_giveBack 5 = .ok (.aload_n 0, 1) := by decide +kernel
theorem dX1_giveBack_6 : decode cX1_giveBack 6 = .ok (.dup, 1) := by decide +kernel
theorem dX1_giveBack_7 : decode cX1_giveBack 7 = .ok (.getfield 23, 3) := by decide +kernel
theorem dX1_giveBack_10 : decode cX1_giveBack 10 = .ok (.iconst 1, 1) := by decide +kernel
theorem dX1_giveBack_11 : decode cX1_giveBack 11 = .ok (.iadd, 1) := by decide +kernel
theorem dX1_giveBack_12 : decode cX1_giveBack 12 = .ok (.putfield 23, 3) := by decide +kernel
theorem dX1_giveBack_15 : decode cX1_giveBack 15 = .ok (.iconst 0, 1) := by decide +kernel
theorem dX1_giveBack_16 : decode cX1_giveBack 16 = .ok (.istore_n 2, 1) := by decide +kernel
theorem dX1_giveBack_17 : decode cX1_giveBack 17 = .ok (.iload_n 2, 1) := by decide +kernel
theorem dX1_giveBack_18 : decode cX1_giveBack 18 = .ok (.aload_n 0, 1) := by decide +kernel
theorem dX1_giveBack_19 : decode cX1_giveBack 19 = .ok (.getfield 15, 3) := by decide +kernel
theorem dX1_giveBack_22 : decode cX1_giveBack 22 = .ok (.if_icmp .ge 25, 3) := by decide +kernel
theorem dX1_giveBack_25 : decode cX1_giveBack 25 = .ok (.iload_n 1, 1) := by decide +kernel
theorem dX1_giveBack_26 : decode cX1_giveBack 26 = .ok (.iconst 1, 1) := by decide +kernel
theorem dX1_giveBack_27 : decode cX1_giveBack 27 = .ok (.iload_n 2, 1) := by decide +kernel
theorem dX1_giveBack_28 : decode cX1_giveBack 28 = .ok (.ishl, 1) := by decide +kernel
theorem dX1_giveBack_29 : decode cX1_giveBack 29 = .ok (.iand, 1) := by decide +kernel
theorem dX1_giveBack_30 : decode cX1_giveBack 30 = .ok (.ifCond .eq 11, 3) := by decide +kernel
theorem dX1_giveBack_33 : decode cX1_giveBack 33 = .ok (.aload_n 0, 1) := by decide +kernel
theorem dX1_giveBack_34 : decode cX1_giveBack 34 = .ok (.getfield 9, 3) := by decide +kernel
theorem dX1_giveBack_37 : decode cX1_giveBack 37 = .ok (.iload_n 2, 1) := by decide +kernel
theorem dX1_giveBack_38 : decode cX1_giveBack 38 = .ok (.bipush (-8), 2) := by decide +kernel
theorem dX1_giveBack_40 : decode cX1_giveBack 40 = .ok (.iastore, 1) := by decide +kernel
theorem dX1_giveBack_41 : decode cX1_giveBack 41 = .ok (.iinc 2 1, 3) := by decide +kernel
theorem dX1_giveBack_44 : decode cX1_giveBack 44 = .ok (.goto (-27), 3) := by decide +kernel
theorem dX1_giveBack_47 : decode cX1_giveBack 47 = .ok (.return_, 1) := by decide +kernel
theorem dX2_init_0 : decode cX2_init 0 = .ok (.aload_n 0, 1) := by decide +kernel
theorem dX2_init_1 : decode cX2_init 1 = .ok (.invokespecial 1, 3) := by decide +kernel
theorem dX2_init_4 : decode cX2_init 4 = .ok (.aload_n 0, 1) := by decide +kernel
theorem dX2_init_5 : decode cX2_init 5 = .ok (.bipush 10, 2) := by decide +kernel
theorem dX2_init_7 : decode cX2_init 7 = .ok (.anewarray 9, 3) := by decide +kernel
theorem dX2_init_10 : decode cX2_init 10 = .ok (.putfield 11, 3) := by decide +kernel
theorem dX2_init_13 : decode cX2_init 13 = .ok (.aload_n 0, 1) := by decide +kernel
theorem dX2_init_14 : decode cX2_init 14 = .ok (.bipush 40, 2) := by decide +kernel
theorem dX2_init_16 : decode cX2_init 16 = .ok (.newarray .boolean, 2) := by decide +kernel
theorem dX2_init_18 : decode cX2_init 18 = .ok (.putfield 15, 3) := by decide +kernel
theorem dX2_init_21 : decode cX2_init 21 = .ok (.aload_n 0, 1) := by decide +kernel
theorem dX2_init_22 : decode cX2_init 22 = .ok (.bipush 8, 2) := by decide +kernel
theorem dX2_init_24 : decode cX2_init 24 = .ok (.anewarray 19, 3) := by decide +kernel
theorem dX2_init_27 : decode cX2_init 27 = .ok (.putfield 21, 3) := by decide +kernel
theorem dX2_init_30 : decode cX2_init 30 = .ok (.aload_n 0, 1) := by decide +kernel
theorem dX2_init_31 : decode cX2_init 31 = .ok (.new 19, 3) := by decide +kernel
theorem dX2_init_34 : decode cX2_init 34 = .ok (.dup, 1) := by decide +kernel
theorem dX2_init_35 : decode cX2_init 35 = .ok (.invokespecial 25, 3) := by decide +kernel
theorem dX2_init_38 : decode cX2_init 38 = .ok (.putfield 26, 3) := by decide +kernel
theorem dX2_init_41 : decode cX2_init 41 = .ok (.iconst 0, 1) := by decide +kernel
theorem dX2_init_42 : decode cX2_init 42 = .ok (.istore_n 1, 1) := by decide +kernel
theorem dX2_init_43 : decode cX2_init 43 = .ok (.iload_n 1, 1) := by decide +kernel
theorem dX2_init_44 : decode cX2_init 44 = .ok (.bipush 10, 2) := by decide +kernel
theorem dX2_init_46 : decode cX2_init 46 = .ok (.if_icmp .ge 22, 3) := by decide +kernel
theorem dX2_init_49 : decode cX2_init 49 = .ok (.aload_n 0, 1) := by decide +kernel
theorem dX2_init_50 : decode cX2_init 50 = .ok (.getfield 11, 3) := by decide +kernel
theorem dX2_init_53 : decode cX2_init 53 = .ok (.iload_n 1, 1) := by decide +kernel
theorem dX2_init_54 : decode cX2_init 54 = .ok (.new 9, 3) := by decide +kernel
theorem dX2_init_57 : decode cX2_init 57 = .ok (.dup, 1) := by decide +kernel
theorem dX2_init_58 : decode cX2_init 58 = .ok (.invokespecial 30, 3) := by decide +kernel
theorem dX2_init_61 : decode cX2_init 61 = .ok (.aastore, 1) := by decide +kernel
theorem dX2_init_62 : decode cX2_init 62 = .ok (.iinc 1 1, 3) := by decide +kernel
theorem dX2_init_65 : decode cX2_init 65 = .ok (.goto (-22), 3) := by decide +kernel
theorem dX2_init_68 : decode cX2_init 68 = .ok (.iconst 0, 1) := by decide +kernel
theorem dX2_init_69 : decode cX2_init 69 = .ok (.istore_n 1, 1) := by decide +kernel
theorem dX2_init_70 : decode cX2_init 70 = .ok (.iload_n 1, 1) := by decide +kernel
theorem dX2_init_71 : decode cX2_init 71 = .ok (.bipush 8, 2) := by decide +kernel
theorem dX2_init_73 : decode cX2_init 73 = .ok (.if_icmp .ge 22, 3) := by decide +kernel
theorem dX2_init_76 : decode cX2_init 76 = .ok (.aload_n 0, 1) := by decide +kernel
theorem dX2_init_77 : decode cX2_init 77 = .ok (.getfield 21, 3) := by decide +kernel
theorem dX2_init_80 : decode cX2_init 80 = .ok (.iload_n 1, 1) := by decide +kernel
theorem dX2_init_81 : decode cX2_init 81 = .ok (.new 19, 3) := by decide +kernel
theorem dX2_init_84 : decode cX2_init 84 = .ok (.dup, 1) := by decide +kernel
theorem dX2_init_85 : decode cX2_init 85 = .ok (.invokespecial 25, 3) := by decide +kernel
theorem dX2_init_88 : decode cX2_init 88 = .ok (.aastore, 1) := by decide +kernel
theorem dX2_init_89 : decode cX2_init 89 = .ok (.iinc 1 1, 3) := by decide +kernel
theorem dX2_init_92 : decode cX2_init 92 = .ok (.goto (-22), 3) := by decide +kernel
theorem dX2_init_95 : decode cX2_init 95 = .ok (.return_, 1) := by decide +kernel
theorem dX2_open_0 : decode cX2_open 0 = .ok (.iload_n 1, 1) := by decide +kernel
theorem dX2_open_1 : decode cX2_open 1 = .ok (.invokestatic 31, 3) := by decide +kernel
theorem dX2_open_4 : decode cX2_open 4 = .ok (.ifCond .eq 14, 3) := by decide +kernel
theorem dX2_open_7 : decode cX2_open 7 = .ok (.iload_n 2, 1) := by decide +kernel
theorem dX2_open_8 : decode cX2_open 8 = .ok (.iconst 1, 1) := by decide +kernel
theorem dX2_open_9 : decode cX2_open 9 = .ok (.if_icmp .lt 9, 3) := by decide +kernel
theorem dX2_open_12 : decode cX2_open 12 = .ok (.iload_n 2, 1) := by decide +kernel
theorem dX2_open_13 : decode cX2_open 13 = .ok (.bipush 20, 2) := by decide +kernel
theorem dX2_open_15 : decode cX2_open 15 = .ok (.if_icmp .le 5, 3) := by decide +kernel
theorem dX2_open_18 : decode cX2_open 18 = .ok (.iconst (-1), 1) := by decide +kernel
theorem dX2_open_19 : decode cX2_open 19 = .ok (.ireturn, 1) := by decide +kernel
theorem dX2_open_20 : decode cX2_open 20 = .ok (.aload_n 0, 1) := by decide +kernel
theorem dX2_open_21 : decode cX2_open 21 = .ok (.getfield 11, 3) := by decide +kernel
theorem dX2_open_24 : decode cX2_open 24 = .ok (.iload_n 1, 1) := by decide +kernel
theorem dX2_open_25 : decode cX2_open 25 = .ok (.aaload, 1) := by decide +kernel
theorem dX2_open_26 : decode cX2_open 26 = .ok (.invokevirtual 35, 3) := by decide +kernel
theorem dX2_open_29 : decode cX2_open 29 = .ok (.ifCond .eq 6, 3) := by decide +kernel
theorem dX2_open_32 : decode cX2_open 32 = .ok (.bipush (-2), 2) := by decide +kernel
theorem dX2_open_34 : decode cX2_open 34 = .ok (.ireturn, 1) := by decide +kernel
theorem dX2_open_35 : decode cX2_open 35 = .ok (.aload_n 0, 1) := by decide +kernel
theorem dX2_open_36 : decode cX2_open 36 = .ok (.getfield 11, 3) := by decide +kernel
theorem dX2_open_39 : decode cX2_open 39 = .ok (.iload_n 1, 1) := by decide +kernel
theorem dX2_open_40 : decode cX2_open 40 = .ok (.aaload, 1) := by decide +kernel
theorem dX2_open_41 : decode cX2_open 41 = .ok (.iload_n 2, 1) := by decide +kernel
theorem dX2_open_42 : decode cX2_open 42 = .ok (.invokevirtual 39, 3) := by decide +kernel
theorem dX2_open_45 : decode cX2_open 45 = .ok (.aload_n 0, 1) := by decide +kernel
theorem dX2_open_46 : decode cX2_open 46 = .ok (.invokevirtual 43, 3) := by decide +kernel
theorem dX2_open_49 : decode cX2_open 49 = .ok (.ireturn, 1) := by decide +kernel
theorem dX2_shut_0 : decode cX2_shut 0 = .ok (.iload_n 1, 1) := by decide +kernel
theorem dX2_shut_1 : decode cX2_shut 1 = .ok (.invokestatic 31, 3) := by decide +kernel
theorem dX2_shut_4 : decode cX2_shut 4 = .ok (.ifCond .ne 5, 3) := by decide +kernel
theorem dX2_shut_7 : decode cX2_shut 7 = .ok (.iconst (-1), 1) := by decide +kernel
theorem dX2_shut_8 : decode cX2_shut 8 = .ok (.ireturn, 1) := by decide +kernel
theorem dX2_shut_9 : decode cX2_shut 9 = .ok (.aload_n 0, 1) := by decide +kernel
theorem dX2_shut_10 : decode cX2_shut 10 = .ok (.getfield 11, 3) := by decide +kernel
theorem dX2_shut_13 : decode cX2_shut 13 = .ok (.iload_n 1, 1) := by decide +kernel
theorem dX2_shut_14 : decode cX2_shut 14 = .ok (.aaload, 1) := by decide +kernel
theorem dX2_shut_15 : decode cX2_shut 15 = .ok (.astore_n 2, 1) := by decide +kernel
theorem dX2_shut_16 : decode cX2_shut 16 = .ok (.aload_n 2, 1) := by decide +kernel
theorem dX2_shut_17 : decode cX2_shut 17 = .ok (.invokevirtual 35, 3) := by decide +kernel
theorem dX2_shut_20 : decode cX2_shut 20 = .ok (.ifCond .eq 16, 3) := by decide +kernel
theorem dX2_shut_23 : decode cX2_shut 23 = .ok (.aload_n 2, 1) := by decide +kernel
theorem dX2_shut_24 : decode cX2_shut 24 = .ok (.bipush (-8), 2) := by decide +kernel
theorem dX2_shut_26 : decode cX2_shut 26 = .ok (.invokevirtual 47, 3) := by decide +kernel
theorem dX2_shut_29 : decode cX2_shut 29 = .ok (.aload_n 2, 1) := by decide +kernel
theorem dX2_shut_30 : decode cX2_shut 30 = .ok (.getfield 51, 3) := by decide +kernel
theorem dX2_shut_33 : decode cX2_shut 33 = .ok (.if_icmp .ge 6, 3) := by decide +kernel
theorem dX2_shut_36 : decode cX2_shut 36 = .ok (.bipush (-2), 2) := by decide +kernel
theorem dX2_shut_38 : decode cX2_shut 38 = .ok (.ireturn, 1) := by decide +kernel
theorem dX2_shut_39 : decode cX2_shut 39 = .ok (.aload_n 2, 1) := by decide +kernel
theorem dX2_shut_40 : decode cX2_shut 40 = .ok (.getfield 51, 3) := by decide +kernel
theorem dX2_shut_43 : decode cX2_shut 43 = .ok (.istore_n 3, 1) := by decide +kernel
theorem dX2_shut_44 : decode cX2_shut 44 = .ok (.aload_n 2, 1) := by decide +kernel
theorem dX2_shut_45 : decode cX2_shut 45 = .ok (.iconst 0, 1) := by decide +kernel
theorem dX2_shut_46 : decode cX2_shut 46 = .ok (.putfield 51, 3) := by decide +kernel
theorem dX2_shut_49 : decode cX2_shut 49 = .ok (.iload_n 3, 1) := by decide +kernel
theorem dX2_shut_50 : decode cX2_shut 50 = .ok (.ireturn, 1) := by decide +kernel
theorem dX2_strict_0 : decode cX2_strict 0 = .ok (.iload_n 1, 1) := by decide +kernel
theorem dX2_strict_1 : decode cX2_strict 1 = .ok (.invokestatic 31, 3) := by decide +kernel
theorem dX2_strict_4 : decode cX2_strict 4 = .ok (.ifCond .ne 5, 3) := by decide +kernel
theorem dX2_strict_7 : decode cX2_strict 7 = .ok (.iconst (-1), 1) := by decide +kernel
theorem dX2_strict_8 : decode cX2_strict 8 = .ok (.ireturn, 1) := by decide +kernel
theorem dX2_strict_9 : decode cX2_strict 9 = .ok (.aload_n 0, 1) := by decide +kernel
theorem dX2_strict_10 : decode cX2_strict 10 = .ok (.getfield 11, 3) := by decide +kernel
theorem dX2_strict_13 : decode cX2_strict 13 = .ok (.iload_n 1, 1) := by decide +kernel
theorem dX2_strict_14 : decode cX2_strict 14 = .ok (.aaload, 1) := by decide +kernel
theorem dX2_strict_15 : decode cX2_strict 15 = .ok (.invokevirtual 35, 3) := by decide +kernel
theorem dX2_strict_18 : decode cX2_strict 18 = .ok (.ifCond .ne 6, 3) := by decide +kernel
theorem dX2_strict_21 : decode cX2_strict 21 = .ok (.bipush (-2), 2) := by decide +kernel
theorem dX2_strict_23 : decode cX2_strict 23 = .ok (.ireturn, 1) := by decide +kernel
theorem dX2_strict_24 : decode cX2_strict 24 = .ok (.aload_n 0, 1) := by decide +kernel
theorem dX2_strict_25 : decode cX2_strict 25 = .ok (.getfield 11, 3) := by decide +kernel
theorem dX2_strict_28 : decode cX2_strict 28 = .ok (.iload_n 1, 1) := by decide +kernel
theorem dX2_strict_29 : decode cX2_strict 29 = .ok (.aaload, 1) := by decide +kernel
theorem dX2_strict_30 : decode cX2_strict 30 = .ok (.getfield 55, 3) := by decide +kernel
theorem dX2_strict_33 : decode cX2_strict 33 = .ok (.istore_n 3, 1) := by decide +kernel
theorem dX2_strict_34 : decode cX2_strict 34 = .ok (.aload_n 0, 1) := by decide +kernel
theorem dX2_strict_35 : decode cX2_strict 35 = .ok (.getfield 11, 3) := by decide +kernel
theorem dX2_strict_38 : decode cX2_strict 38 = .ok (.iload_n 1, 1) := by decide +kernel
theorem dX2_strict_39 : decode cX2_strict 39 = .ok (.aaload, 1) := by decide +kernel
theorem dX2_strict_40 : decode cX2_strict 40 = .ok (.iload_n 2, 1) := by decide +kernel
theorem dX2_strict_41 : decode cX2_strict 41 = .ok (.putfield 55, 3) := by decide +kernel
theorem dX2_strict_44 : decode cX2_strict 44 = .ok (.iload_n 3, 1) := by decide +kernel
theorem dX2_strict_45 : decode cX2_strict 45 = .ok (.ifCond .eq 7, 3) := by decide +kernel
theorem dX2_strict_48 : decode cX2_strict 48 = .ok (.iconst 1, 1) := by decide +kernel
theorem dX2_strict_49 : decode cX2_strict 49 = .ok (.goto 4, 3) := by decide +kernel
theorem dX2_strict_52 : decode cX2_strict 52 = .ok (.iconst 0, 1) := by decide +kernel
theorem dX2_strict_53 : decode cX2_strict 53 = .ok (.ireturn, 1) := by decide +kernel
theorem dX2_list_0 : decode cX2_list 0 = .ok (.iload_n 1, 1) := by decide +kernel
theorem dX2_list_1 : decode cX2_list 1 = .ok (.ifCond .lt 9, 3) := by decide +kernel
theorem dX2_list_4 : decode cX2_list 4 = .ok (.iload_n 1, 1) := by decide +kernel
theorem dX2_list_5 : decode cX2_list 5 = .ok (.bipush 11, 2) := by decide +kernel
theorem dX2_list_7 : decode cX2_list 7 = .ok (.if_icmp .le 5, 3) := by decide +kernel
theorem dX2_list_10 : decode cX2_list 10 = .ok (.iconst (-1), 1) := by decide +kernel
theorem dX2_list_11 : decode cX2_list 11 = .ok (.ireturn, 1) := by decide +kernel
theorem dX2_list_12 : decode cX2_list 12 = .ok (.aload_n 0, 1) := by decide +kernel
theorem dX2_list_13 : decode cX2_list 13 = .ok (.getfield 26, 3) := by decide +kernel
theorem dX2_list_16 : decode cX2_list 16 = .ok (.getfield 59, 3) := by decide +kernel
theorem dX2_list_19 : decode cX2_list 19 = .ok (.bipush 6, 2) := by decide +kernel
theorem dX2_list_21 : decode cX2_list 21 = .ok (.if_icmp .lt 6, 3) := by decide +kernel
theorem dX2_list_24 : decode cX2_list 24 = .ok (.bipush (-3), 2) := by decide +kernel
theorem dX2_list_26 : decode cX2_list 26 = .ok (.ireturn, 1) := by decide +kernel
theorem dX2_list_27 : decode cX2_list 27 = .ok (.aload_n 0, 1) := by decide +kernel
theorem dX2_list_28 : decode cX2_list 28 = .ok (.getfield 26, 3) := by decide +kernel
theorem dX2_list_31 : decode cX2_list 31 = .ok (.getfield 62, 3) := by decide +kernel
theorem dX2_list_34 : decode cX2_list 34 = .ok (.aload_n 0, 1) := by decide +kernel
theorem dX2_list_35 : decode cX2_list 35 = .ok (.getfield 26, 3) := by decide +kernel
theorem dX2_list_38 : decode cX2_list 38 = .ok (.getfield 59, 3) := by decide +kernel
theorem dX2_list_41 : decode cX2_list 41 = .ok (.iload_n 1, 1) := by decide +kernel
theorem dX2_list_42 : decode cX2_list 42 = .ok (.iastore, 1) := by decide +kernel
theorem dX2_list_43 : decode cX2_list 43 = .ok (.aload_n 0, 1) := by decide +kernel
theorem dX2_list_44 : decode cX2_list 44 = .ok (.getfield 26, 3) := by decide +kernel
theorem dX2_list_47 : decode cX2_list 47 = .ok (.dup, 1) := by decide +kernel
theorem dX2_list_48 : decode cX2_list 48 = .ok (.getfield 59, 3) := by decide +kernel
theorem dX2_list_51 : decode cX2_list 51 = .ok (.iconst 1, 1) := by decide +kernel
theorem dX2_list_52 : decode cX2_list 52 = .ok (.iadd, 1) := by decide +kernel
theorem dX2_list_53 : decode cX2_list 53 = .ok (.putfield 59, 3) := by decide +kernel
theorem dX2_list_56 : decode cX2_list 56 = .ok (.aload_n 0, 1) := by decide +kernel
theorem dX2_list_57 : decode cX2_list 57 = .ok (.getfield 26, 3) := by decide +kernel
theorem dX2_list_60 : decode cX2_list 60 = .ok (.getfield 59, 3) := by decide +kernel
theorem dX2_list_63 : decode cX2_list 63 = .ok (.ireturn, 1) := by decide +kernel
theorem dX2_book_0 : decode cX2_book 0 = .ok (.iload_n 1, 1) := by decide +kernel
theorem dX2_book_1 : decode cX2_book 1 = .ok (.iconst 1, 1) := by decide +kernel
theorem dX2_book_2 : decode cX2_book 2 = .ok (.if_icmp .lt 18, 3) := by decide +kernel
theorem dX2_book_5 : decode cX2_book 5 = .ok (.iload_n 1, 1) := by decide +kernel
theorem dX2_book_6 : decode cX2_book 6 = .ok (.bipush 60, 2) := by decide +kernel
theorem dX2_book_8 : decode cX2_book 8 = .ok (.if_icmp .gt 12, 3) := by decide +kernel
theorem dX2_book_11 : decode cX2_book 11 = .ok (.iload_n 2, 1) := by decide +kernel
theorem dX2_book_12 : decode cX2_book 12 = .ok (.ifCond .lt 8, 3) := by decide +kernel
theorem dX2_book_15 : decode cX2_book 15 = .ok (.iload_n 2, 1) := by decide +kernel
theorem dX2_book_16 : decode cX2_book 16 = .ok (.iconst 2, 1) := by decide +kernel
theorem dX2_book_17 : decode cX2_book 17 = .ok (.if_icmp .le 5, 3) := by decide +kernel
theorem dX2_book_20 : decode cX2_book 20 = .ok (.iconst (-1), 1) := by decide +kernel
theorem dX2_book_21 : decode cX2_book 21 = .ok (.ireturn, 1) := by decide +kernel
theorem dX2_book_22 : decode cX2_book 22 = .ok (.aload_n 0, 1) := by decide +kernel
theorem dX2_book_23 : decode cX2_book 23 = .ok (.getfield 26, 3) := by decide +kernel
theorem dX2_book_26 : decode cX2_book 26 = .ok (.getfield 59, 3) := by decide +kernel
theorem dX2_book_29 : decode cX2_book 29 = .ok (.ifCond .ne 6, 3) := by decide +kernel
theorem dX2_book_32 : decode cX2_book 32 = .ok (.bipush (-2), 2) := by decide +kernel
theorem dX2_book_34 : decode cX2_book 34 = .ok (.ireturn, 1) := by decide +kernel
theorem dX2_book_35 : decode cX2_book 35 = .ok (.aload_n 0, 1) := by decide +kernel
theorem dX2_book_36 : decode cX2_book 36 = .ok (.getfield 66, 3) := by decide +kernel
theorem dX2_book_39 : decode cX2_book 39 = .ok (.bipush 40, 2) := by decide +kernel
theorem dX2_book_41 : decode cX2_book 41 = .ok (.if_icmp .lt 6, 3) := by decide +kernel
theorem dX2_book_44 : decode cX2_book 44 = .ok (.bipush (-3), 2) := by decide +kernel
theorem dX2_book_46 : decode cX2_book 46 = .ok (.ireturn, 1) := by decide +kernel
theorem dX2_book_47 : decode cX2_book 47 = .ok (.aload_n 0, 1) := by decide +kernel
theorem dX2_book_48 : decode cX2_book 48 = .ok (.getfield 26, 3) := by decide +kernel
theorem dX2_book_51 : decode cX2_book 51 = .ok (.iload_n 1, 1) := by decide +kernel
theorem dX2_book_52 : decode cX2_book 52 = .ok (.putfield 69, 3) := by decide +kernel
theorem dX2_book_55 : decode cX2_book 55 = .ok (.aload_n 0, 1) := by decide +kernel
theorem dX2_book_56 : decode cX2_book 56 = .ok (.getfield 26, 3) := by decide +kernel
theorem dX2_book_59 : decode cX2_book 59 = .ok (.iload_n 2, 1) := by decide +kernel
theorem dX2_book_60 : decode cX2_book 60 = .ok (.putfield 70, 3) := by decide +kernel
theorem dX2_book_63 : decode cX2_book 63 = .ok (.aload_n 0, 1) := by decide +kernel
theorem dX2_book_64 : decode cX2_book 64 = .ok (.aload_n 0, 1) := by decide +kernel
theorem dX2_book_65 : decode cX2_book 65 = .ok (.getfield 26, 3) := by decide +kernel
theorem dX2_book_68 : decode cX2_book 68 = .ok (.invokevirtual 73, 3) := by decide +kernel
theorem dX2_book_71 : decode cX2_book 71 = .ok (.istore_n 3, 1) := by decide +kernel
theorem dX2_book_72 : decode cX2_book 72 = .ok (.iload_n 3, 1) := by decide +kernel
theorem dX2_book_73 : decode cX2_book 73 = .ok (.bipush (-4), 2) := by decide +kernel
theorem dX2_book_75 : decode cX2_book 75 = .ok (.if_icmp .ne 24, 3) := by decide +kernel
theorem dX2_book_78 : decode cX2_book 78 = .ok (.iload_n 2, 1) := by decide +kernel
theorem dX2_book_79 : decode cX2_book 79 = .ok (.iconst 2, 1) := by decide +kernel
theorem dX2_book_80 : decode cX2_book 80 = .ok (.if_icmp .ne 19, 3) := by decide +kernel
theorem dX2_book_83 : decode cX2_book 83 = .ok (.aload_n 0, 1) := by decide +kernel
theorem dX2_book_84 : decode cX2_book 84 = .ok (.getfield 77, 3) := by decide +kernel
theorem dX2_book_87 : decode cX2_book 87 = .ok (.bipush 8, 2) := by decide +kernel
theorem dX2_book_89 : decode cX2_book 89 = .ok (.if_icmp .ge 10, 3) := by decide +kernel
theorem dX2_book_92 : decode cX2_book 92 = .ok (.aload_n 0, 1) := by decide +kernel
theorem dX2_book_93 : decode cX2_book 93 = .ok (.invokevirtual 80, 3) := by decide +kernel
theorem dX2_book_96 : decode cX2_book 96 = .ok (.bipush (-7), 2) := by decide +kernel
theorem dX2_book_98 : decode cX2_book 98 = .ok (.istore_n 3, 1) := by decide +kernel
theorem dX2_book_99 : decode cX2_book 99 = .ok (.aload_n 0, 1) := by decide +kernel
theorem dX2_book_100 : decode cX2_book 100 = .ok (.getfield 26, 3) := by decide +kernel
theorem dX2_book_103 : decode cX2_book 103 = .ok (.iconst 0, 1) := by decide +kernel
theorem dX2_book_104 : decode cX2_book 104 = .ok (.putfield 59, 3) := by decide +kernel
theorem dX2_book_107 : decode cX2_book 107 = .ok (.iload_n 3, 1) := by decide +kernel
theorem dX2_book_108 : decode cX2_book 108 = .ok (.ireturn, 1) := by decide +kernel
theorem dX2_cancel_0 : decode cX2_cancel 0 = .ok (.aload_n 0, 1) := by decide +kernel
theorem dX2_cancel_1 : decode cX2_cancel 1 = .ok (.iload_n 1, 1) := by decide +kernel
theorem dX2_cancel_2 : decode cX2_cancel 2 = .ok (.invokevirtual 83, 3) := by decide +kernel
theorem dX2_cancel_5 : decode cX2_cancel 5 = .ok (.ifCond .ne 5, 3) := by decide +kernel
theorem dX2_cancel_8 : decode cX2_cancel 8 = .ok (.iconst (-1), 1) := by decide +kernel
theorem dX2_cancel_9 : decode cX2_cancel 9 = .ok (.ireturn, 1) := by decide +kernel
theorem dX2_cancel_10 : decode cX2_cancel 10 = .ok (.aload_n 0, 1) := by decide +kernel
theorem dX2_cancel_11 : decode cX2_cancel 11 = .ok (.getfield 15, 3) := by decide +kernel
theorem dX2_cancel_14 : decode cX2_cancel 14 = .ok (.iload_n 1, 1) := by decide +kernel
theorem dX2_cancel_15 : decode cX2_cancel 15 = .ok (.baload, 1) := by decide +kernel
theorem dX2_cancel_16 : decode cX2_cancel 16 = .ok (.ifCond .eq 6, 3) := by decide +kernel
theorem dX2_cancel_19 : decode cX2_cancel 19 = .ok (.bipush (-2), 2) := by decide +kernel
theorem dX2_cancel_21 : decode cX2_cancel 21 = .ok (.ireturn, 1) := by decide +kernel
theorem dX2_cancel_22 : decode cX2_cancel 22 = .ok (.aload_n 0, 1) := by decide +kernel
theorem dX2_cancel_23 : decode cX2_cancel 23 = .ok (.getfield 15, 3) := by decide +kernel
theorem dX2_cancel_26 : decode cX2_cancel 26 = .ok (.iload_n 1, 1) := by decide +kernel
theorem dX2_cancel_27 : decode cX2_cancel 27 = .ok (.iconst 1, 1) := by decide +kernel
theorem dX2_cancel_28 : decode cX2_cancel 28 = .ok (.bastore, 1) := by decide +kernel
theorem dX2_cancel_29 : decode cX2_cancel 29 = .ok (.iconst 0, 1) := by decide +kernel
theorem dX2_cancel_30 : decode cX2_cancel 30 = .ok (.istore_n 2, 1) := by decide +kernel
theorem dX2_cancel_31 : decode cX2_cancel 31 = .ok (.iload_n 2, 1) := by decide +kernel
theorem dX2_cancel_32 : decode cX2_cancel 32 = .ok (.bipush 10, 2) := by decide +kernel
theorem dX2_cancel_34 : decode cX2_cancel 34 = .ok (.if_icmp .ge 19, 3) := by decide +kernel
theorem dX2_cancel_37 : decode cX2_cancel 37 = .ok (.aload_n 0, 1) := by decide +kernel
theorem dX2_cancel_38 : decode cX2_cancel 38 = .ok (.getfield 11, 3) := by decide +kernel
theorem dX2_cancel_41 : decode cX2_cancel 41 = .ok (.iload_n 2, 1) := by decide +kernel
theorem dX2_cancel_42 : decode cX2_cancel 42 = .ok (.aaload, 1) := by decide +kernel
theorem dX2_cancel_43 : decode cX2_cancel 43 = .ok (.iload_n 1, 1) := by decide +kernel
theorem dX2_cancel_44 : decode cX2_cancel 44 = .ok (.invokevirtual 86, 3) := by decide +kernel
theorem dX2_cancel_47 : decode cX2_cancel 47 = .ok (.iinc 2 1, 3) := by decide +kernel
theorem dX2_cancel_50 : decode cX2_cancel 50 = .ok (.goto (-19), 3) := by decide +kernel
theorem dX2_cancel_53 : decode cX2_cancel 53 = .ok (.aload_n 0, 1) := by decide +kernel
theorem dX2_cancel_54 : decode cX2_cancel 54 = .ok (.invokevirtual 43, 3) := by decide +kernel
theorem dX2_cancel_57 : decode cX2_cancel 57 = .ok (.ireturn, 1) := by decide +kernel
theorem dX2_leave_0 : decode cX2_leave 0 = .ok (.aload_n 0, 1) := by decide +kernel
theorem dX2_leave_1 : decode cX2_leave 1 = .ok (.iload_n 1, 1) := by decide +kernel
theorem dX2_leave_2 : decode cX2_leave 2 = .ok (.invokevirtual 89, 3) := by decide +kernel
theorem dX2_leave_5 : decode cX2_leave 5 = .ok (.ifCond .ne 5, 3) := by decide +kernel
theorem dX2_leave_8 : decode cX2_leave 8 = .ok (.iconst (-1), 1) := by decide +kernel
theorem dX2_leave_9 : decode cX2_leave 9 = .ok (.ireturn, 1) := by decide +kernel
theorem dX2_leave_10 : decode cX2_leave 10 = .ok (.aload_n 0, 1) := by decide +kernel
theorem dX2_leave_11 : decode cX2_leave 11 = .ok (.getfield 21, 3) := by decide +kernel
theorem dX2_leave_14 : decode cX2_leave 14 = .ok (.iload_n 1, 1) := by decide +kernel
theorem dX2_leave_15 : decode cX2_leave 15 = .ok (.aaload, 1) := by decide +kernel
theorem dX2_leave_16 : decode cX2_leave 16 = .ok (.astore_n 2, 1) := by decide +kernel
theorem dX2_leave_17 : decode cX2_leave 17 = .ok (.aload_n 0, 1) := by decide +kernel
theorem dX2_leave_18 : decode cX2_leave 18 = .ok (.dup, 1) := by decide +kernel
theorem dX2_leave_19 : decode cX2_leave 19 = .ok (.getfield 77, 3) := by decide +kernel
theorem dX2_leave_22 : decode cX2_leave 22 = .ok (.iconst 1, 1) := by decide +kernel
theorem dX2_leave_23 : decode cX2_leave 23 = .ok (.isub, 1) := by decide +kernel
theorem dX2_leave_24 : decode cX2_leave 24 = .ok (.putfield 77, 3) := by decide +kernel
theorem dX2_leave_27 : decode cX2_leave 27 = .ok (.iload_n 1, 1) := by decide +kernel
theorem dX2_leave_28 : decode cX2_leave 28 = .ok (.istore_n 3, 1) := by decide +kernel
theorem dX2_leave_29 : decode cX2_leave 29 = .ok (.iload_n 3, 1) := by decide +kernel
theorem dX2_leave_30 : decode cX2_leave 30 = .ok (.aload_n 0, 1) := by decide +kernel
theorem dX2_leave_31 : decode cX2_leave 31 = .ok (.getfield 77, 3) := by decide +kernel
theorem dX2_leave_34 : decode cX2_leave 34 = .ok (.if_icmp .ge 23, 3) := by decide +kernel
theorem dX2_leave_37 : decode cX2_leave 37 = .ok (.aload_n 0, 1) := by decide +kernel
theorem dX2_leave_38 : decode cX2_leave 38 = .ok (.getfield 21, 3) := by decide +kernel
theorem dX2_leave_41 : decode cX2_leave 41 = .ok (.iload_n 3, 1) := by decide +kernel
theorem dX2_leave_42 : decode cX2_leave 42 = .ok (.aload_n 0, 1) := by decide +kernel
theorem dX2_leave_43 : decode cX2_leave 43 = .ok (.getfield 21, 3) := by decide +kernel
theorem dX2_leave_46 : decode cX2_leave 46 = .ok (.iload_n 3, 1) := by decide +kernel
theorem dX2_leave_47 : decode cX2_leave 47 = .ok (.iconst 1, 1) := by decide +kernel
theorem dX2_leave_48 : decode cX2_leave 48 = .ok (.iadd, 1) := by decide +kernel
theorem dX2_leave_49 : decode cX2_leave 49 = .ok (.aaload, 1) := by decide +kernel
theorem dX2_leave_50 : decode cX2_leave 50 = .ok (.aastore, 1) := by decide +kernel
theorem dX2_leave_51 : decode cX2_leave 51 = .ok (.iinc 3 1, 3) := by decide +kernel
theorem dX2_leave_54 : decode cX2_leave 54 = .ok (.goto (-25), 3) := by decide +kernel
theorem dX2_leave_57 : decode cX2_leave 57 = .ok (.aload_n 0, 1) := by decide +kernel
theorem dX2_leave_58 : decode cX2_leave 58 = .ok (.getfield 21, 3) := by decide +kernel
theorem dX2_leave_61 : decode cX2_leave 61 = .ok (.aload_n 0, 1) := by decide +kernel
theorem dX2_leave_62 : decode cX2_leave 62 = .ok (.getfield 77, 3) := by decide +kernel
theorem dX2_leave_65 : decode cX2_leave 65 = .ok (.aload_n 2, 1) := by decide +kernel
theorem dX2_leave_66 : decode cX2_leave 66 = .ok (.aastore, 1) := by decide +kernel
theorem dX2_leave_67 : decode cX2_leave 67 = .ok (.aload_n 2, 1) := by decide +kernel
theorem dX2_leave_68 : decode cX2_leave 68 = .ok (.getfield 69, 3) := by decide +kernel
theorem dX2_leave_71 : decode cX2_leave 71 = .ok (.ireturn, 1) := by decide +kernel
theorem dX2_seat_0 : decode cX2_seat 0 = .ok (.iload_n 1, 1) := by decide +kernel
theorem dX2_seat_1 : decode cX2_seat 1 = .ok (.invokestatic 31, 3) := by decide +kernel
theorem dX2_seat_4 : decode cX2_seat 4 = .ok (.ifCond .eq 7, 3) := by decide +kernel
theorem dX2_seat_7 : decode cX2_seat 7 = .ok (.iload_n 2, 1) := by decide +kernel
theorem dX2_seat_8 : decode cX2_seat 8 = .ok (.ifCond .ge 5, 3) := by decide +kernel
theorem dX2_seat_11 : decode cX2_seat 11 = .ok (.iconst (-1), 1) := by decide +kernel
theorem dX2_seat_12 : decode cX2_seat 12 = .ok (.ireturn, 1) := by decide +kernel
theorem dX2_seat_13 : decode cX2_seat 13 = .ok (.iload_n 2, 1) := by decide +kernel
theorem dX2_seat_14 : decode cX2_seat 14 = .ok (.aload_n 0, 1) := by decide +kernel
theorem dX2_seat_15 : decode cX2_seat 15 = .ok (.getfield 11, 3) := by decide +kernel
theorem dX2_seat_18 : decode cX2_seat 18 = .ok (.iload_n 1, 1) := by decide +kernel
theorem dX2_seat_19 : decode cX2_seat 19 = .ok (.aaload, 1) := by decide +kernel
theorem dX2_seat_20 : decode cX2_seat 20 = .ok (.getfield 51, 3) := by decide +kernel
theorem dX2_seat_23 : decode cX2_seat 23 = .ok (.if_icmp .lt 6, 3) := by decide +kernel
theorem dX2_seat_26 : decode cX2_seat 26 = .ok (.bipush (-2), 2) := by decide +kernel
theorem dX2_seat_28 : decode cX2_seat 28 = .ok (.ireturn, 1) := by decide +kernel
theorem dX2_seat_29 : decode cX2_seat 29 = .ok (.aload_n 0, 1) := by decide +kernel
theorem dX2_seat_30 : decode cX2_seat 30 = .ok (.getfield 11, 3) := by decide +kernel
theorem dX2_seat_33 : decode cX2_seat 33 = .ok (.iload_n 1, 1) := by decide +kernel
theorem dX2_seat_34 : decode cX2_seat 34 = .ok (.aaload, 1) := by decide +kernel
theorem dX2_seat_35 : decode cX2_seat 35 = .ok (.getfield 92, 3) := by decide +kernel
theorem dX2_seat_38 : decode cX2_seat 38 = .ok (.iload_n 2, 1) := by decide +kernel
theorem dX2_seat_39 : decode cX2_seat 39 = .ok (.iaload, 1) := by decide +kernel
theorem dX2_seat_40 : decode cX2_seat 40 = .ok (.ireturn, 1) := by decide +kernel
theorem dX2_has_0 : decode cX2_has 0 = .ok (.aload_n 0, 1) := by decide +kernel
theorem dX2_has_1 : decode cX2_has 1 = .ok (.iload_n 1, 1) := by decide +kernel
theorem dX2_has_2 : decode cX2_has 2 = .ok (.invokevirtual 83, 3) := by decide +kernel
theorem dX2_has_5 : decode cX2_has 5 = .ok (.ifCond .eq 10, 3) := by decide +kernel
theorem dX2_has_8 : decode cX2_has 8 = .ok (.iload_n 2, 1) := by decide +kernel
theorem dX2_has_9 : decode cX2_has 9 = .ok (.invokestatic 31, 3) := by decide +kernel
theorem dX2_has_12 : decode cX2_has 12 = .ok (.ifCond .ne 5, 3) := by decide +kernel
theorem dX2_has_15 : decode cX2_has 15 = .ok (.iconst (-1), 1) := by decide +kernel
theorem dX2_has_16 : decode cX2_has 16 = .ok (.ireturn, 1) := by decide +kernel
theorem dX2_has_17 : decode cX2_has 17 = .ok (.aload_n 0, 1) := by decide +kernel
theorem dX2_has_18 : decode cX2_has 18 = .ok (.getfield 11, 3) := by decide +kernel
theorem dX2_has_21 : decode cX2_has 21 = .ok (.iload_n 2, 1) := by decide +kernel
theorem dX2_has_22 : decode cX2_has 22 = .ok (.aaload, 1) := by decide +kernel
theorem dX2_has_23 : decode cX2_has 23 = .ok (.iload_n 1, 1) := by decide +kernel
theorem dX2_has_24 : decode cX2_has 24 = .ok (.invokevirtual 47, 3) := by decide +kernel
theorem dX2_has_27 : decode cX2_has 27 = .ok (.ireturn, 1) := by decide +kernel
theorem dX2_about_0 : decode cX2_about 0 = .ok (.iload_n 1, 1) := by decide +kernel
theorem dX2_about_1 : decode cX2_about 1 = .ok (.invokestatic 31, 3) := by decide +kernel
theorem dX2_about_4 : decode cX2_about 4 = .ok (.ifCond .eq 12, 3) := by decide +kernel
theorem dX2_about_7 : decode cX2_about 7 = .ok (.iload_n 2, 1) := by decide +kernel
theorem dX2_about_8 : decode cX2_about 8 = .ok (.ifCond .lt 8, 3) := by decide +kernel
theorem dX2_about_11 : decode cX2_about 11 = .ok (.iload_n 2, 1) := by decide +kernel
theorem dX2_about_12 : decode cX2_about 12 = .ok (.iconst 3, 1) := by decide +kernel
theorem dX2_about_13 : decode cX2_about 13 = .ok (.if_icmp .le 5, 3) := by decide +kernel
theorem dX2_about_16 : decode cX2_about 16 = .ok (.iconst (-1), 1) := by decide +kernel
theorem dX2_about_17 : decode cX2_about 17 = .ok (.ireturn, 1) := by decide +kernel
theorem dX2_about_18 : decode cX2_about 18 = .ok (.aload_n 0, 1) := by decide +kernel
theorem dX2_about_19 : decode cX2_about 19 = .ok (.getfield 11, 3) := by decide +kernel
theorem dX2_about_22 : decode cX2_about 22 = .ok (.iload_n 1, 1) := by decide +kernel
theorem dX2_about_23 : decode cX2_about 23 = .ok (.aaload, 1) := by decide +kernel
theorem dX2_about_24 : decode cX2_about 24 = .ok (.astore_n 3, 1) := by decide +kernel
theorem dX2_about_25 : decode cX2_about 25 = .ok (.aload_n 3, 1) := by decide +kernel
theorem dX2_about_26 : decode cX2_about 26 = .ok (.invokevirtual 35, 3) := by decide +kernel
theorem dX2_about_29 : decode cX2_about 29 = .ok (.ifCond .ne 6, 3) := by decide +kernel
theorem dX2_about_32 : decode cX2_about 32 = .ok (.bipush (-2), 2) := by decide +kernel
theorem dX2_about_34 : decode cX2_about 34 = .ok (.ireturn, 1) := by decide +kernel
theorem dX2_about_35 : decode cX2_about 35 = .ok (.iload_n 2, 1) := by decide +kernel
theorem dX2_about_36 : decode cX2_about 36 = .ok (.tableswitch 45 0 2 #[28, 35, 40], 28) := by decide +kernel
theorem dX2_about_64 : decode cX2_about 64 = .ok (.aload_n 3, 1) := by decide +kernel
theorem dX2_about_65 : decode cX2_about 65 = .ok (.bipush (-8), 2) := by decide +kernel
theorem dX2_about_67 : decode cX2_about 67 = .ok (.invokevirtual 47, 3) := by decide +kernel
theorem dX2_about_70 : decode cX2_about 70 = .ok (.ireturn, 1) := by decide +kernel
theorem dX2_about_71 : decode cX2_about 71 = .ok (.aload_n 3, 1) := by decide +kernel
theorem dX2_about_72 : decode cX2_about 72 = .ok (.getfield 95, 3) := by decide +kernel
theorem dX2_about_75 : decode cX2_about 75 = .ok (.ireturn, 1) := by decide +kernel
theorem dX2_about_76 : decode cX2_about 76 = .ok (.aload_n 3, 1) := by decide +kernel
theorem dX2_about_77 : decode cX2_about 77 = .ok (.getfield 98, 3) := by decide +kernel
theorem dX2_about_80 : decode cX2_about 80 = .ok (.ireturn, 1) := by decide +kernel
theorem dX2_about_81 : decode cX2_about 81 = .ok (.aload_n 3, 1) := by decide +kernel
theorem dX2_about_82 : decode cX2_about 82 = .ok (.getfield 51, 3) := by decide +kernel
theorem dX2_about_85 : decode cX2_about 85 = .ok (.ireturn, 1) := by decide +kernel
theorem dX2_told_0 : decode cX2_told 0 = .ok (.iload_n 1, 1) := by decide +kernel
theorem dX2_told_1 : decode cX2_told 1 = .ok (.tableswitch 72 0 5 #[39, 44, 49, 54, 59, 67], 39) := by decide +kernel
theorem dX2_told_40 : decode cX2_told 40 = .ok (.aload_n 0, 1) := by decide +kernel
theorem dX2_told_41 : decode cX2_told 41 = .ok (.getfield 66, 3) := by decide +kernel
theorem dX2_told_44 : decode cX2_told 44 = .ok (.ireturn, 1) := by decide +kernel
theorem dX2_told_45 : decode cX2_told 45 = .ok (.aload_n 0, 1) := by decide +kernel
theorem dX2_told_46 : decode cX2_told 46 = .ok (.getfield 77, 3) := by decide +kernel
theorem dX2_told_49 : decode cX2_told 49 = .ok (.ireturn, 1) := by decide +kernel
theorem dX2_told_50 : decode cX2_told 50 = .ok (.aload_n 0, 1) := by decide +kernel
theorem dX2_told_51 : decode cX2_told 51 = .ok (.getfield 101, 3) := by decide +kernel
theorem dX2_told_54 : decode cX2_told 54 = .ok (.ireturn, 1) := by decide +kernel
theorem dX2_told_55 : decode cX2_told 55 = .ok (.aload_n 0, 1) := by decide +kernel
theorem dX2_told_56 : decode cX2_told 56 = .ok (.getfield 104, 3) := by decide +kernel
theorem dX2_told_59 : decode cX2_told 59 = .ok (.ireturn, 1) := by decide +kernel
theorem dX2_told_60 : decode cX2_told 60 = .ok (.aload_n 0, 1) := by decide +kernel
theorem dX2_told_61 : decode cX2_told 61 = .ok (.getfield 26, 3) := by decide +kernel
theorem dX2_told_64 : decode cX2_told 64 = .ok (.getfield 59, 3) := by decide +kernel
theorem dX2_told_67 : decode cX2_told 67 = .ok (.ireturn, 1) := by decide +kernel
theorem dX2_told_68 : decode cX2_told 68 = .ok (.aload_n 0, 1) := by decide +kernel
theorem dX2_told_69 : decode cX2_told 69 = .ok (.invokevirtual 107, 3) := by decide +kernel
theorem dX2_told_72 : decode cX2_told 72 = .ok (.ireturn, 1) := by decide +kernel
theorem dX2_told_73 : decode cX2_told 73 = .ok (.iconst (-1), 1) := by decide +kernel
theorem dX2_told_74 : decode cX2_told 74 = .ok (.ireturn, 1) := by decide +kernel
theorem dX2_waiting_0 : decode cX2_waiting 0 = .ok (.aload_n 0, 1) := by decide +kernel
theorem dX2_waiting_1 : decode cX2_waiting 1 = .ok (.iload_n 1, 1) := by decide +kernel
theorem dX2_waiting_2 : decode cX2_waiting 2 = .ok (.invokevirtual 89, 3) := by decide +kernel
theorem dX2_waiting_5 : decode cX2_waiting 5 = .ok (.ifCond .eq 15, 3) := by decide +kernel
theorem dX2_waiting_8 : decode cX2_waiting 8 = .ok (.aload_n 0, 1) := by decide +kernel
theorem dX2_waiting_9 : decode cX2_waiting 9 = .ok (.getfield 21, 3) := by decide +kernel
theorem dX2_waiting_12 : decode cX2_waiting 12 = .ok (.iload_n 1, 1) := by decide +kernel
theorem dX2_waiting_13 : decode cX2_waiting 13 = .ok (.aaload, 1) := by decide +kernel
theorem dX2_waiting_14 : decode cX2_waiting 14 = .ok (.getfield 69, 3) := by decide +kernel
theorem dX2_waiting_17 : decode cX2_waiting 17 = .ok (.goto 5, 3) := by decide +kernel
theorem dX2_waiting_20 : decode cX2_waiting 20 = .ok (.bipush (-8), 2) := by decide +kernel
theorem dX2_waiting_22 : decode cX2_waiting 22 = .ok (.ireturn, 1) := by decide +kernel
theorem dX2_isRow_0 : decode cX2_isRow 0 = .ok (.iload_n 0, 1) := by decide +kernel
theorem dX2_isRow_1 : decode cX2_isRow 1 = .ok (.ifCond .lt 13, 3) := by decide +kernel
theorem dX2_isRow_4 : decode cX2_isRow 4 = .ok (.iload_n 0, 1) := by decide +kernel
theorem dX2_isRow_5 : decode cX2_isRow 5 = .ok (.bipush 10, 2) := by decide +kernel
theorem dX2_isRow_7 : decode cX2_isRow 7 = .ok (.if_icmp .ge 7, 3) := by decide +kernel
theorem dX2_isRow_10 : decode cX2_isRow 10 = .ok (.iconst 1, 1) := by decide +kernel
theorem dX2_isRow_11 : decode cX2_isRow 11 = .ok (.goto 4, 3) := by decide +kernel
theorem dX2_isRow_14 : decode cX2_isRow 14 = .ok (.iconst 0, 1) := by decide +kernel
theorem dX2_isRow_15 : decode cX2_isRow 15 = .ok (.ireturn, 1) := by decide +kernel
theorem dX2_isBooking_0 : decode cX2_isBooking 0 = .ok (.iload_n 1, 1) := by decide +kernel
theorem dX2_isBooking_1 : decode cX2_isBooking 1 = .ok (.ifCond .lt 15, 3) := by decide +kernel
theorem dX2_isBooking_4 : decode cX2_isBooking 4 = .ok (.iload_n 1, 1) := by decide +kernel
theorem dX2_isBooking_5 : decode cX2_isBooking 5 = .ok (.aload_n 0, 1) := by decide +kernel
theorem dX2_isBooking_6 : decode cX2_isBooking 6 = .ok (.getfield 66, 3) := by decide +kernel
theorem dX2_isBooking_9 : decode cX2_isBooking 9 = .ok (.if_icmp .ge 7, 3) := by decide +kernel
theorem dX2_isBooking_12 : decode cX2_isBooking 12 = .ok (.iconst 1, 1) := by decide +kernel
theorem dX2_isBooking_13 : decode cX2_isBooking 13 = .ok (.goto 4, 3) := by decide +kernel
theorem dX2_isBooking_16 : decode cX2_isBooking 16 = .ok (.iconst 0, 1) := by decide +kernel
theorem dX2_isBooking_17 : decode cX2_isBooking 17 = .ok (.ireturn, 1) := by decide +kernel
theorem dX2_isWaiting_0 : decode cX2_isWaiting 0 = .ok (.iload_n 1, 1) := by decide +kernel
theorem dX2_isWaiting_1 : decode cX2_isWaiting 1 = .ok (.ifCond .lt 15, 3) := by decide +kernel
theorem dX2_isWaiting_4 : decode cX2_isWaiting 4 = .ok (.iload_n 1, 1) := by decide +kernel
theorem dX2_isWaiting_5 : decode cX2_isWaiting 5 = .ok (.aload_n 0, 1) := by decide +kernel
theorem dX2_isWaiting_6 : decode cX2_isWaiting 6 = .ok (.getfield 77, 3) := by decide +kernel
theorem dX2_isWaiting_9 : decode cX2_isWaiting 9 = .ok (.if_icmp .ge 7, 3) := by decide +kernel
theorem dX2_isWaiting_12 : decode cX2_isWaiting 12 = .ok (.iconst 1, 1) := by decide +kernel
theorem dX2_isWaiting_13 : decode cX2_isWaiting 13 = .ok (.goto 4, 3) := by decide +kernel
theorem dX2_isWaiting_16 : decode cX2_isWaiting 16 = .ok (.iconst 0, 1) := by decide +kernel
theorem dX2_isWaiting_17 : decode cX2_isWaiting 17 = .ok (.ireturn, 1) := by decide +kernel
theorem dX2_openRows_0 : decode cX2_openRows 0 = .ok (.iconst 0, 1) := by decide +kernel
theorem dX2_openRows_1 : decode cX2_openRows 1 = .ok (.istore_n 1, 1) := by decide +kernel
theorem dX2_openRows_2 : decode cX2_openRows 2 = .ok (.iconst 0, 1) := by decide +kernel
theorem dX2_openRows_3 : decode cX2_openRows 3 = .ok (.istore_n 2, 1) := by decide +kernel
theorem dX2_openRows_4 : decode cX2_openRows 4 = .ok (.iload_n 2, 1) := by decide +kernel
theorem dX2_openRows_5 : decode cX2_openRows 5 = .ok (.bipush 10, 2) := by decide +kernel
theorem dX2_openRows_7 : decode cX2_openRows 7 = .ok (.if_icmp .ge 24, 3) := by decide +kernel
theorem dX2_openRows_10 : decode cX2_openRows 10 = .ok (.aload_n 0, 1) := by decide +kernel
theorem dX2_openRows_11 : decode cX2_openRows 11 = .ok (.getfield 11, 3) := by decide +kernel
theorem dX2_openRows_14 : decode cX2_openRows 14 = .ok (.iload_n 2, 1) := by decide +kernel
theorem dX2_openRows_15 : decode cX2_openRows 15 = .ok (.aaload, 1) := by decide +kernel
theorem dX2_openRows_16 : decode cX2_openRows 16 = .ok (.invokevirtual 35, 3) := by decide +kernel
theorem dX2_openRows_19 : decode cX2_openRows 19 = .ok (.ifCond .eq 6, 3) := by decide +kernel
theorem dX2_openRows_22 : decode cX2_openRows 22 = .ok (.iinc 1 1, 3) := by decide +kernel
theorem dX2_openRows_25 : decode cX2_openRows 25 = .ok (.iinc 2 1, 3) := by decide +kernel
theorem dX2_openRows_28 : decode cX2_openRows 28 = .ok (.goto (-24), 3) := by decide +kernel
theorem dX2_openRows_31 : decode cX2_openRows 31 = .ok (.iload_n 1, 1) := by decide +kernel
theorem dX2_openRows_32 : decode cX2_openRows 32 = .ok (.ireturn, 1) := by decide +kernel
theorem dX2_queueUp_0 : decode cX2_queueUp 0 = .ok (.aload_n 0, 1) := by decide +kernel
theorem dX2_queueUp_1 : decode cX2_queueUp 1 = .ok (.getfield 21, 3) := by decide +kernel
theorem dX2_queueUp_4 : decode cX2_queueUp 4 = .ok (.aload_n 0, 1) := by decide +kernel
theorem dX2_queueUp_5 : decode cX2_queueUp 5 = .ok (.getfield 77, 3) := by decide +kernel
theorem dX2_queueUp_8 : decode cX2_queueUp 8 = .ok (.aaload, 1) := by decide +kernel
theorem dX2_queueUp_9 : decode cX2_queueUp 9 = .ok (.astore_n 1, 1) := by decide +kernel
theorem dX2_queueUp_10 : decode cX2_queueUp 10 = .ok (.aload_n 0, 1) := by decide +kernel
theorem dX2_queueUp_11 : decode cX2_queueUp 11 = .ok (.getfield 21, 3) := by decide +kernel
theorem dX2_queueUp_14 : decode cX2_queueUp 14 = .ok (.aload_n 0, 1) := by decide +kernel
theorem dX2_queueUp_15 : decode cX2_queueUp 15 = .ok (.getfield 77, 3) := by decide +kernel
theorem dX2_queueUp_18 : decode cX2_queueUp 18 = .ok (.aload_n 0, 1) := by decide +kernel
theorem dX2_queueUp_19 : decode cX2_queueUp 19 = .ok (.getfield 26, 3) := by decide +kernel
theorem dX2_queueUp_22 : decode cX2_queueUp 22 = .ok (.aastore, 1) := by decide +kernel
theorem dX2_queueUp_23 : decode cX2_queueUp 23 = .ok (.aload_n 0, 1) := by decide +kernel
theorem dX2_queueUp_24 : decode cX2_queueUp 24 = .ok (.dup, 1) := by decide +kernel
theorem dX2_queueUp_25 : decode cX2_queueUp 25 = .ok (.getfield 77, 3) := by decide +kernel
theorem dX2_queueUp_28 : decode cX2_queueUp 28 = .ok (.iconst 1, 1) := by decide +kernel
theorem dX2_queueUp_29 : decode cX2_queueUp 29 = .ok (.iadd, 1) := by decide +kernel
theorem dX2_queueUp_30 : decode cX2_queueUp 30 = .ok (.putfield 77, 3) := by decide +kernel
theorem dX2_queueUp_33 : decode cX2_queueUp 33 = .ok (.aload_n 0, 1) := by decide +kernel
theorem dX2_queueUp_34 : decode cX2_queueUp 34 = .ok (.aload_n 1, 1) := by decide +kernel
theorem dX2_queueUp_35 : decode cX2_queueUp 35 = .ok (.putfield 26, 3) := by decide +kernel
theorem dX2_queueUp_38 : decode cX2_queueUp 38 = .ok (.return_, 1) := by decide +kernel
theorem dX2_tryThoseWaiting_0 : decode cX2_tryThoseWaiting 0 = .ok (.iconst 0, 1) := by decide +kernel
theorem dX2_tryThoseWaiting_1 : decode cX2_tryThoseWaiting 1 = .ok (.istore_n 1, 1) := by decide +kernel
theorem dX2_tryThoseWaiting_2 : decode cX2_tryThoseWaiting 2 = .ok (.iconst 0, 1) := by decide +kernel
theorem dX2_tryThoseWaiting_3 : decode cX2_tryThoseWaiting 3 = .ok (.istore_n 2, 1) := by decide +kernel
theorem dX2_tryThoseWaiting_4 : decode cX2_tryThoseWaiting 4 = .ok (.iload_n 2, 1) := by decide +kernel
theorem dX2_tryThoseWaiting_5 : decode cX2_tryThoseWaiting 5 = .ok (.aload_n 0, 1) := by decide +kernel
theorem dX2_tryThoseWaiting_6 : decode cX2_tryThoseWaiting 6 = .ok (.getfield 77, 3) := by decide +kernel
theorem dX2_tryThoseWaiting_9 : decode cX2_tryThoseWaiting 9 = .ok (.if_icmp .ge 67, 3) := by decide +kernel
theorem dX2_tryThoseWaiting_12 : decode cX2_tryThoseWaiting 12 = .ok (.aload_n 0, 1) := by decide +kernel
theorem dX2_tryThoseWaiting_13 : decode cX2_tryThoseWaiting 13 = .ok (.getfield 21, 3) := by decide +kernel
theorem dX2_tryThoseWaiting_16 : decode cX2_tryThoseWaiting 16 = .ok (.iload_n 2, 1) := by decide +kernel
theorem dX2_tryThoseWaiting_17 : decode cX2_tryThoseWaiting 17 = .ok (.aaload, 1) := by decide +kernel
theorem dX2_tryThoseWaiting_18 : decode cX2_tryThoseWaiting 18 = .ok (.astore_n 3, 1) := by decide +kernel
theorem dX2_tryThoseWaiting_19 : decode cX2_tryThoseWaiting 19 = .ok (.aload_n 0, 1) := by decide +kernel
theorem dX2_tryThoseWaiting_20 : decode cX2_tryThoseWaiting 20 = .ok (.getfield 66, 3) := by decide +kernel
theorem dX2_tryThoseWaiting_23 : decode cX2_tryThoseWaiting 23 = .ok (.bipush 40, 2) := by decide +kernel
theorem dX2_tryThoseWaiting_25 : decode cX2_tryThoseWaiting 25 = .ok (.if_icmp .ge 15, 3) := by decide +kernel
theorem dX2_tryThoseWaiting_28 : decode cX2_tryThoseWaiting 28 = .ok (.aload_n 0, 1) := by decide +kernel
theorem dX2_tryThoseWaiting_29 : decode cX2_tryThoseWaiting 29 = .ok (.aload_n 3, 1) := by decide +kernel
theorem dX2_tryThoseWaiting_30 : decode cX2_tryThoseWaiting 30 = .ok (.invokevirtual 73, 3) := by decide +kernel
theorem dX2_tryThoseWaiting_33 : decode cX2_tryThoseWaiting 33 = .ok (.ifCond .lt 7, 3) := by decide +kernel
theorem dX2_tryThoseWaiting_36 : decode cX2_tryThoseWaiting 36 = .ok (.iconst 1, 1) := by decide +kernel
theorem dX2_tryThoseWaiting_37 : decode cX2_tryThoseWaiting 37 = .ok (.goto 4, 3) := by decide +kernel
theorem dX2_tryThoseWaiting_40 : decode cX2_tryThoseWaiting 40 = .ok (.iconst 0, 1) := by decide +kernel
theorem dX2_tryThoseWaiting_41 : decode cX2_tryThoseWaiting 41 = .ok (.istore 4, 2) := by decide +kernel
theorem dX2_tryThoseWaiting_43 : decode cX2_tryThoseWaiting 43 = .ok (.iload 4, 2) := by decide +kernel
theorem dX2_tryThoseWaiting_45 : decode cX2_tryThoseWaiting 45 = .ok (.ifCond .ne 25, 3) := by decide +kernel
theorem dX2_tryThoseWaiting_48 : decode cX2_tryThoseWaiting 48 = .ok (.aload_n 0, 1) := by decide +kernel
theorem dX2_tryThoseWaiting_49 : decode cX2_tryThoseWaiting 49 = .ok (.getfield 21, 3) := by decide +kernel
theorem dX2_tryThoseWaiting_52 : decode cX2_tryThoseWaiting 52 = .ok (.iload_n 2, 1) := by decide +kernel
theorem dX2_tryThoseWaiting_53 : decode cX2_tryThoseWaiting 53 = .ok (.aload_n 0, 1) := by decide +kernel
theorem dX2_tryThoseWaiting_54 : decode cX2_tryThoseWaiting 54 = .ok (.getfield 21, 3) := by decide +kernel
theorem dX2_tryThoseWaiting_57 : decode cX2_tryThoseWaiting 57 = .ok (.iload_n 1, 1) := by decide +kernel
theorem dX2_tryThoseWaiting_58 : decode cX2_tryThoseWaiting 58 = .ok (.aaload, 1) := by decide +kernel
theorem dX2_tryThoseWaiting_59 : decode cX2_tryThoseWaiting 59 = .ok (.aastore, 1) := by decide +kernel
theorem dX2_tryThoseWaiting_60 : decode cX2_tryThoseWaiting 60 = .ok (.aload_n 0, 1) := by decide +kernel
theorem dX2_tryThoseWaiting_61 : decode cX2_tryThoseWaiting 61 = .ok (.getfield 21, 3) := by decide +kernel
theorem dX2_tryThoseWaiting_64 : decode cX2_tryThoseWaiting 64 = .ok (.iload_n 1, 1) := by decide +kernel
theorem dX2_tryThoseWaiting_65 : decode cX2_tryThoseWaiting 65 = .ok (.aload_n 3, 1) := by decide +kernel
theorem dX2_tryThoseWaiting_66 : decode cX2_tryThoseWaiting 66 = .ok (.aastore, 1) := by decide +kernel
theorem dX2_tryThoseWaiting_67 : decode cX2_tryThoseWaiting 67 = .ok (.iinc 1 1, 3) := by decide +kernel
theorem dX2_tryThoseWaiting_70 : decode cX2_tryThoseWaiting 70 = .ok (.iinc 2 1, 3) := by decide +kernel
theorem dX2_tryThoseWaiting_73 : decode cX2_tryThoseWaiting 73 = .ok (.goto (-69), 3) := by decide +kernel
theorem dX2_tryThoseWaiting_76 : decode cX2_tryThoseWaiting 76 = .ok (.aload_n 0, 1) := by decide +kernel
theorem dX2_tryThoseWaiting_77 : decode cX2_tryThoseWaiting 77 = .ok (.getfield 77, 3) := by decide +kernel
theorem dX2_tryThoseWaiting_80 : decode cX2_tryThoseWaiting 80 = .ok (.iload_n 1, 1) := by decide +kernel
theorem dX2_tryThoseWaiting_81 : decode cX2_tryThoseWaiting 81 = .ok (.isub, 1) := by decide +kernel
theorem dX2_tryThoseWaiting_82 : decode cX2_tryThoseWaiting 82 = .ok (.istore_n 2, 1) := by decide +kernel
theorem dX2_tryThoseWaiting_83 : decode cX2_tryThoseWaiting 83 = .ok (.aload_n 0, 1) := by decide +kernel
theorem dX2_tryThoseWaiting_84 : decode cX2_tryThoseWaiting 84 = .ok (.iload_n 1, 1) := by decide +kernel
theorem dX2_tryThoseWaiting_85 : decode cX2_tryThoseWaiting 85 = .ok (.putfield 77, 3) := by decide +kernel
theorem dX2_tryThoseWaiting_88 : decode cX2_tryThoseWaiting 88 = .ok (.iload_n 2, 1) := by decide +kernel
theorem dX2_tryThoseWaiting_89 : decode cX2_tryThoseWaiting 89 = .ok (.ireturn, 1) := by decide +kernel
theorem dX2_goThrough_0 : decode cX2_goThrough 0 = .ok (.aload_n 0, 1) := by decide +kernel
theorem dX2_goThrough_1 : decode cX2_goThrough 1 = .ok (.aload_n 1, 1) := by decide +kernel
theorem dX2_goThrough_2 : decode cX2_goThrough 2 = .ok (.iconst 0, 1) := by decide +kernel
theorem dX2_goThrough_3 : decode cX2_goThrough 3 = .ok (.aload_n 1, 1) := by decide +kernel
theorem dX2_goThrough_4 : decode cX2_goThrough 4 = .ok (.getfield 69, 3) := by decide +kernel
theorem dX2_goThrough_7 : decode cX2_goThrough 7 = .ok (.invokevirtual 110, 3) := by decide +kernel
theorem dX2_goThrough_10 : decode cX2_goThrough 10 = .ok (.istore_n 2, 1) := by decide +kernel
theorem dX2_goThrough_11 : decode cX2_goThrough 11 = .ok (.iload_n 2, 1) := by decide +kernel
theorem dX2_goThrough_12 : decode cX2_goThrough 12 = .ok (.ifCond .eq 15, 3) := by decide +kernel
theorem dX2_goThrough_15 : decode cX2_goThrough 15 = .ok (.aload_n 0, 1) := by decide +kernel
theorem dX2_goThrough_16 : decode cX2_goThrough 16 = .ok (.dup, 1) := by decide +kernel
theorem dX2_goThrough_17 : decode cX2_goThrough 17 = .ok (.getfield 104, 3) := by decide +kernel
theorem dX2_goThrough_20 : decode cX2_goThrough 20 = .ok (.iconst 1, 1) := by decide +kernel
theorem dX2_goThrough_21 : decode cX2_goThrough 21 = .ok (.iadd, 1) := by decide +kernel
theorem dX2_goThrough_22 : decode cX2_goThrough 22 = .ok (.putfield 104, 3) := by decide +kernel
theorem dX2_goThrough_25 : decode cX2_goThrough 25 = .ok (.iload_n 2, 1) := by decide +kernel
theorem dX2_goThrough_26 : decode cX2_goThrough 26 = .ok (.ireturn, 1) := by decide +kernel
theorem dX2_goThrough_27 : decode cX2_goThrough 27 = .ok (.aload_n 0, 1) := by decide +kernel
theorem dX2_goThrough_28 : decode cX2_goThrough 28 = .ok (.getfield 66, 3) := by decide +kernel
theorem dX2_goThrough_31 : decode cX2_goThrough 31 = .ok (.istore_n 3, 1) := by decide +kernel
theorem dX2_goThrough_32 : decode cX2_goThrough 32 = .ok (.aload_n 0, 1) := by decide +kernel
theorem dX2_goThrough_33 : decode cX2_goThrough 33 = .ok (.dup, 1) := by decide +kernel
theorem dX2_goThrough_34 : decode cX2_goThrough 34 = .ok (.getfield 66, 3) := by decide +kernel
theorem dX2_goThrough_37 : decode cX2_goThrough 37 = .ok (.iconst 1, 1) := by decide +kernel
theorem dX2_goThrough_38 : decode cX2_goThrough 38 = .ok (.iadd, 1) := by decide +kernel
theorem dX2_goThrough_39 : decode cX2_goThrough 39 = .ok (.putfield 66, 3) := by decide +kernel
theorem dX2_goThrough_42 : decode cX2_goThrough 42 = .ok (.iload_n 3, 1) := by decide +kernel
theorem dX2_goThrough_43 : decode cX2_goThrough 43 = .ok (.ireturn, 1) := by decide +kernel
theorem dX2_goOn_0 : decode cX2_goOn 0 = .ok (.iload_n 3, 1) := by decide +kernel
theorem dX2_goOn_1 : decode cX2_goOn 1 = .ok (.ifCond .gt 5, 3) := by decide +kernel
theorem dX2_goOn_4 : decode cX2_goOn 4 = .ok (.iconst 0, 1) := by decide +kernel
theorem dX2_goOn_5 : decode cX2_goOn 5 = .ok (.ireturn, 1) := by decide +kernel
theorem dX2_goOn_6 : decode cX2_goOn 6 = .ok (.aload_n 0, 1) := by decide +kernel
theorem dX2_goOn_7 : decode cX2_goOn 7 = .ok (.aload_n 1, 1) := by decide +kernel
theorem dX2_goOn_8 : decode cX2_goOn 8 = .ok (.iload_n 2, 1) := by decide +kernel
theorem dX2_goOn_9 : decode cX2_goOn 9 = .ok (.invokevirtual 114, 3) := by decide +kernel
theorem dX2_goOn_12 : decode cX2_goOn 12 = .ok (.istore 4, 2) := by decide +kernel
theorem dX2_goOn_14 : decode cX2_goOn 14 = .ok (.iload 4, 2) := by decide +kernel
theorem dX2_goOn_16 : decode cX2_goOn 16 = .ok (.ifCond .eq 38, 3) := by decide +kernel
theorem dX2_goOn_19 : decode cX2_goOn 19 = .ok (.aload_n 1, 1) := by decide +kernel
theorem dX2_goOn_20 : decode cX2_goOn 20 = .ok (.getfield 70, 3) := by decide +kernel
theorem dX2_goOn_23 : decode cX2_goOn 23 = .ok (.iconst 1, 1) := by decide +kernel
theorem dX2_goOn_24 : decode cX2_goOn 24 = .ok (.if_icmp .ne 15, 3) := by decide +kernel
theorem dX2_goOn_27 : decode cX2_goOn 27 = .ok (.iload_n 3, 1) := by decide +kernel
theorem dX2_goOn_28 : decode cX2_goOn 28 = .ok (.aload_n 1, 1) := by decide +kernel
theorem dX2_goOn_29 : decode cX2_goOn 29 = .ok (.getfield 69, 3) := by decide +kernel
theorem dX2_goOn_32 : decode cX2_goOn 32 = .ok (.if_icmp .ge 7, 3) := by decide +kernel
theorem dX2_goOn_35 : decode cX2_goOn 35 = .ok (.iconst 1, 1) := by decide +kernel
theorem dX2_goOn_36 : decode cX2_goOn 36 = .ok (.goto 4, 3) := by decide +kernel
theorem dX2_goOn_39 : decode cX2_goOn 39 = .ok (.iconst 0, 1) := by decide +kernel
theorem dX2_goOn_40 : decode cX2_goOn 40 = .ok (.istore 5, 2) := by decide +kernel
theorem dX2_goOn_42 : decode cX2_goOn 42 = .ok (.iload 5, 2) := by decide +kernel
theorem dX2_goOn_44 : decode cX2_goOn 44 = .ok (.ifCond .eq 7, 3) := by decide +kernel
theorem dX2_goOn_47 : decode cX2_goOn 47 = .ok (.iconst 0, 1) := by decide +kernel
theorem dX2_goOn_48 : decode cX2_goOn 48 = .ok (.goto 5, 3) := by decide +kernel
theorem dX2_goOn_51 : decode cX2_goOn 51 = .ok (.iload 4, 2) := by decide +kernel
theorem dX2_goOn_53 : decode cX2_goOn 53 = .ok (.ireturn, 1) := by decide +kernel
theorem dX2_goOn_54 : decode cX2_goOn 54 = .ok (.aload_n 0, 1) := by decide +kernel
theorem dX2_goOn_55 : decode cX2_goOn 55 = .ok (.getfield 11, 3) := by decide +kernel
theorem dX2_goOn_58 : decode cX2_goOn 58 = .ok (.aload_n 1, 1) := by decide +kernel
theorem dX2_goOn_59 : decode cX2_goOn 59 = .ok (.getfield 62, 3) := by decide +kernel
theorem dX2_goOn_62 : decode cX2_goOn 62 = .ok (.iload_n 2, 1) := by decide +kernel
theorem dX2_goOn_63 : decode cX2_goOn 63 = .ok (.iaload, 1) := by decide +kernel
theorem dX2_goOn_64 : decode cX2_goOn 64 = .ok (.aaload, 1) := by decide +kernel
theorem dX2_goOn_65 : decode cX2_goOn 65 = .ok (.astore 5, 2) := by decide +kernel
theorem dX2_goOn_67 : decode cX2_goOn 67 = .ok (.aload 5, 2) := by decide +kernel
theorem dX2_goOn_69 : decode cX2_goOn 69 = .ok (.dup, 1) := by decide +kernel
theorem dX2_goOn_70 : decode cX2_goOn 70 = .ok (.getfield 95, 3) := by decide +kernel
theorem dX2_goOn_73 : decode cX2_goOn 73 = .ok (.iconst 1, 1) := by decide +kernel
theorem dX2_goOn_74 : decode cX2_goOn 74 = .ok (.iadd, 1) := by decide +kernel
theorem dX2_goOn_75 : decode cX2_goOn 75 = .ok (.putfield 95, 3) := by decide +kernel
theorem dX2_goOn_78 : decode cX2_goOn 78 = .ok (.aload_n 0, 1) := by decide +kernel
theorem dX2_goOn_79 : decode cX2_goOn 79 = .ok (.aload_n 0, 1) := by decide +kernel
theorem dX2_goOn_80 : decode cX2_goOn 80 = .ok (.getfield 101, 3) := by decide +kernel
theorem dX2_goOn_83 : decode cX2_goOn 83 = .ok (.iload_n 2, 1) := by decide +kernel
theorem dX2_goOn_84 : decode cX2_goOn 84 = .ok (.iconst 1, 1) := by decide +kernel
theorem dX2_goOn_85 : decode cX2_goOn 85 = .ok (.iadd, 1) := by decide +kernel
theorem dX2_goOn_86 : decode cX2_goOn 86 = .ok (.invokestatic 118, 3) := by decide +kernel
theorem dX2_goOn_89 : decode cX2_goOn 89 = .ok (.putfield 101, 3) := by decide +kernel
theorem dX2_goOn_92 : decode cX2_goOn 92 = .ok (.aload 5, 2) := by decide +kernel
theorem dX2_goOn_94 : decode cX2_goOn 94 = .ok (.iload_n 3, 1) := by decide +kernel
theorem dX2_goOn_95 : decode cX2_goOn 95 = .ok (.aload_n 0, 1) := by decide +kernel
theorem dX2_goOn_96 : decode cX2_goOn 96 = .ok (.getfield 66, 3) := by decide +kernel
theorem dX2_goOn_99 : decode cX2_goOn 99 = .ok (.invokevirtual 124, 3) := by decide +kernel
theorem dX2_goOn_102 : decode cX2_goOn 102 = .ok (.istore 6, 2) := by decide +kernel
theorem dX2_goOn_104 : decode cX2_goOn 104 = .ok (.aload_n 0, 1) := by decide +kernel
theorem dX2_goOn_105 : decode cX2_goOn 105 = .ok (.aload_n 1, 1) := by decide +kernel
theorem dX2_goOn_106 : decode cX2_goOn 106 = .ok (.iload_n 2, 1) := by decide +kernel
theorem dX2_goOn_107 : decode cX2_goOn 107 = .ok (.iconst 1, 1) := by decide +kernel
theorem dX2_goOn_108 : decode cX2_goOn 108 = .ok (.iadd, 1) := by decide +kernel
theorem dX2_goOn_109 : decode cX2_goOn 109 = .ok (.iload_n 3, 1) := by decide +kernel
theorem dX2_goOn_110 : decode cX2_goOn 110 = .ok (.iload 6, 2) := by decide +kernel
theorem dX2_goOn_112 : decode cX2_goOn 112 = .ok (.invokestatic 127, 3) := by decide +kernel
theorem dX2_goOn_115 : decode cX2_goOn 115 = .ok (.isub, 1) := by decide +kernel
theorem dX2_goOn_116 : decode cX2_goOn 116 = .ok (.invokevirtual 110, 3) := by decide +kernel
theorem dX2_goOn_119 : decode cX2_goOn 119 = .ok (.istore 7, 2) := by decide +kernel
theorem dX2_goOn_121 : decode cX2_goOn 121 = .ok (.iload 7, 2) := by decide +kernel
theorem dX2_goOn_123 : decode cX2_goOn 123 = .ok (.ifCond .eq 10, 3) := by decide +kernel
theorem dX2_goOn_126 : decode cX2_goOn 126 = .ok (.aload 5, 2) := by decide +kernel
theorem dX2_goOn_128 : decode cX2_goOn 128 = .ok (.iload 6, 2) := by decide +kernel
theorem dX2_goOn_130 : decode cX2_goOn 130 = .ok (.invokevirtual 132, 3) := by decide +kernel
theorem dX2_goOn_133 : decode cX2_goOn 133 = .ok (.iload 7, 2) := by decide +kernel
theorem dX2_goOn_135 : decode cX2_goOn 135 = .ok (.ireturn, 1) := by decide +kernel
theorem dX2_obstacleAt_0 : decode cX2_obstacleAt 0 = .ok (.iload_n 2, 1) := by decide +kernel
theorem dX2_obstacleAt_1 : decode cX2_obstacleAt 1 = .ok (.aload_n 1, 1) := by decide +kernel
theorem dX2_obstacleAt_2 : decode cX2_obstacleAt 2 = .ok (.getfield 59, 3) := by decide +kernel
theorem dX2_obstacleAt_5 : decode cX2_obstacleAt 5 = .ok (.if_icmp .lt 6, 3) := by decide +kernel
theorem dX2_obstacleAt_8 : decode cX2_obstacleAt 8 = .ok (.bipush (-4), 2) := by decide +kernel
theorem dX2_obstacleAt_10 : decode cX2_obstacleAt 10 = .ok (.ireturn, 1) := by decide +kernel
theorem dX2_obstacleAt_11 : decode cX2_obstacleAt 11 = .ok (.aload_n 1, 1) := by decide +kernel
theorem dX2_obstacleAt_12 : decode cX2_obstacleAt 12 = .ok (.getfield 62, 3) := by decide +kernel
theorem dX2_obstacleAt_15 : decode cX2_obstacleAt 15 = .ok (.iload_n 2, 1) := by decide +kernel
theorem dX2_obstacleAt_16 : decode cX2_obstacleAt 16 = .ok (.iaload, 1) := by decide +kernel
theorem dX2_obstacleAt_17 : decode cX2_obstacleAt 17 = .ok (.istore_n 3, 1) := by decide +kernel
theorem dX2_obstacleAt_18 : decode cX2_obstacleAt 18 = .ok (.iload_n 3, 1) := by decide +kernel
theorem dX2_obstacleAt_19 : decode cX2_obstacleAt 19 = .ok (.invokestatic 31, 3) := by decide +kernel
theorem dX2_obstacleAt_22 : decode cX2_obstacleAt 22 = .ok (.ifCond .ne 6, 3) := by decide +kernel
theorem dX2_obstacleAt_25 : decode cX2_obstacleAt 25 = .ok (.bipush (-6), 2) := by decide +kernel
theorem dX2_obstacleAt_27 : decode cX2_obstacleAt 27 = .ok (.ireturn, 1) := by decide +kernel
theorem dX2_obstacleAt_28 : decode cX2_obstacleAt 28 = .ok (.aload_n 0, 1) := by decide +kernel
theorem dX2_obstacleAt_29 : decode cX2_obstacleAt 29 = .ok (.getfield 11, 3) := by decide +kernel
theorem dX2_obstacleAt_32 : decode cX2_obstacleAt 32 = .ok (.iload_n 3, 1) := by decide +kernel
theorem dX2_obstacleAt_33 : decode cX2_obstacleAt 33 = .ok (.aaload, 1) := by decide +kernel
theorem dX2_obstacleAt_34 : decode cX2_obstacleAt 34 = .ok (.invokevirtual 35, 3) := by decide +kernel
theorem dX2_obstacleAt_37 : decode cX2_obstacleAt 37 = .ok (.ifCond .eq 7, 3) := by decide +kernel
theorem dX2_obstacleAt_40 : decode cX2_obstacleAt 40 = .ok (.iconst 0, 1) := by decide +kernel
theorem dX2_obstacleAt_41 : decode cX2_obstacleAt 41 = .ok (.goto 5, 3) := by decide +kernel
theorem dX2_obstacleAt_44 : decode cX2_obstacleAt 44 = .ok (.bipush (-5), 2) := by decide +kernel
theorem dX2_obstacleAt_46 : decode cX2_obstacleAt 46 = .ok (.ireturn, 1) := by decide +kernel
theorem dX3_init_0 : decode cX3_init 0 = .ok (.aload_n 0, 1) := by decide +kernel
theorem dX3_init_1 : decode cX3_init 1 = .ok (.invokespecial 1, 3) := by decide +kernel
theorem dX3_init_4 : decode cX3_init 4 = .ok (.aload_n 0, 1) := by decide +kernel
theorem dX3_init_5 : decode cX3_init 5 = .ok (.bipush 10, 2) := by decide +kernel
theorem dX3_init_7 : decode cX3_init 7 = .ok (.newarray .boolean, 2) := by decide +kernel
theorem dX3_init_9 : decode cX3_init 9 = .ok (.putfield 7, 3) := by decide +kernel
theorem dX3_init_12 : decode cX3_init 12 = .ok (.aload_n 0, 1) := by decide +kernel
theorem dX3_init_13 : decode cX3_init 13 = .ok (.bipush 10, 2) := by decide +kernel
theorem dX3_init_15 : decode cX3_init 15 = .ok (.newarray .boolean, 2) := by decide +kernel
theorem dX3_init_17 : decode cX3_init 17 = .ok (.putfield 13, 3) := by decide +kernel
theorem dX3_init_20 : decode cX3_init 20 = .ok (.aload_n 0, 1) := by decide +kernel
theorem dX3_init_21 : decode cX3_init 21 = .ok (.bipush 10, 2) := by decide +kernel
theorem dX3_init_23 : decode cX3_init 23 = .ok (.newarray .int, 2) := by decide +kernel
theorem dX3_init_25 : decode cX3_init 25 = .ok (.putfield 16, 3) := by decide +kernel
theorem dX3_init_28 : decode cX3_init 28 = .ok (.aload_n 0, 1) := by decide +kernel
theorem dX3_init_29 : decode cX3_init 29 = .ok (.bipush 10, 2) := by decide +kernel
theorem dX3_init_31 : decode cX3_init 31 = .ok (.newarray .int, 2) := by decide +kernel
theorem dX3_init_33 : decode cX3_init 33 = .ok (.putfield 20, 3) := by decide +kernel
theorem dX3_init_36 : decode cX3_init 36 = .ok (.aload_n 0, 1) := by decide +kernel
theorem dX3_init_37 : decode cX3_init 37 = .ok (.bipush 10, 2) := by decide +kernel
theorem dX3_init_39 : decode cX3_init 39 = .ok (.newarray .int, 2) := by decide +kernel
theorem dX3_init_41 : decode cX3_init 41 = .ok (.putfield 23, 3) := by decide +kernel
theorem dX3_init_44 : decode cX3_init 44 = .ok (.aload_n 0, 1) := by decide +kernel
theorem dX3_init_45 : decode cX3_init 45 = .ok (.sipush 200, 3) := by decide +kernel
theorem dX3_init_48 : decode cX3_init 48 = .ok (.newarray .int, 2) := by decide +kernel
theorem dX3_init_50 : decode cX3_init 50 = .ok (.putfield 26, 3) := by decide +kernel
theorem dX3_init_53 : decode cX3_init 53 = .ok (.aload_n 0, 1) := by decide +kernel
theorem dX3_init_54 : decode cX3_init 54 = .ok (.bipush 6, 2) := by decide +kernel
theorem dX3_init_56 : decode cX3_init 56 = .ok (.newarray .int, 2) := by decide +kernel
theorem dX3_init_58 : decode cX3_init 58 = .ok (.putfield 29, 3) := by decide +kernel
theorem dX3_init_61 : decode cX3_init 61 = .ok (.aload_n 0, 1) := by decide +kernel
theorem dX3_init_62 : decode cX3_init 62 = .ok (.bipush 40, 2) := by decide +kernel
theorem dX3_init_64 : decode cX3_init 64 = .ok (.newarray .boolean, 2) := by decide +kernel
theorem dX3_init_66 : decode cX3_init 66 = .ok (.putfield 32, 3) := by decide +kernel
theorem dX3_init_69 : decode cX3_init 69 = .ok (.aload_n 0, 1) := by decide +kernel
theorem dX3_init_70 : decode cX3_init 70 = .ok (.bipush 8, 2) := by decide +kernel
theorem dX3_init_72 : decode cX3_init 72 = .ok (.newarray .int, 2) := by decide +kernel
theorem dX3_init_74 : decode cX3_init 74 = .ok (.putfield 35, 3) := by decide +kernel
theorem dX3_init_77 : decode cX3_init 77 = .ok (.aload_n 0, 1) := by decide +kernel
theorem dX3_init_78 : decode cX3_init 78 = .ok (.bipush 48, 2) := by decide +kernel
theorem dX3_init_80 : decode cX3_init 80 = .ok (.newarray .int, 2) := by decide +kernel
theorem dX3_init_82 : decode cX3_init 82 = .ok (.putfield 38, 3) := by decide +kernel
theorem dX3_init_85 : decode cX3_init 85 = .ok (.aload_n 0, 1) := by decide +kernel
theorem dX3_init_86 : decode cX3_init 86 = .ok (.bipush 8, 2) := by decide +kernel
theorem dX3_init_88 : decode cX3_init 88 = .ok (.newarray .int, 2) := by decide +kernel
theorem dX3_init_90 : decode cX3_init 90 = .ok (.putfield 41, 3) := by decide +kernel
theorem dX3_init_93 : decode cX3_init 93 = .ok (.aload_n 0, 1) := by decide +kernel
theorem dX3_init_94 : decode cX3_init 94 = .ok (.bipush 6, 2) := by decide +kernel
theorem dX3_init_96 : decode cX3_init 96 = .ok (.newarray .int, 2) := by decide +kernel
theorem dX3_init_98 : decode cX3_init 98 = .ok (.putfield 44, 3) := by decide +kernel
theorem dX3_init_101 : decode cX3_init 101 = .ok (.aload_n 0, 1) := by decide +kernel
theorem dX3_init_102 : decode cX3_init 102 = .ok (.bipush 6, 2) := by decide +kernel
theorem dX3_init_104 : decode cX3_init 104 = .ok (.newarray .int, 2) := by decide +kernel
theorem dX3_init_106 : decode cX3_init 106 = .ok (.putfield 47, 3) := by decide +kernel
theorem dX3_init_109 : decode cX3_init 109 = .ok (.return_, 1) := by decide +kernel
theorem dX3_in_0 : decode cX3_in 0 = .ok (.iload_n 0, 1) := by decide +kernel
theorem dX3_in_1 : decode cX3_in 1 = .ok (.iload_n 1, 1) := by decide +kernel
theorem dX3_in_2 : decode cX3_in 2 = .ok (.if_icmp .lt 12, 3) := by decide +kernel
theorem dX3_in_5 : decode cX3_in 5 = .ok (.iload_n 0, 1) := by decide +kernel
theorem dX3_in_6 : decode cX3_in 6 = .ok (.iload_n 2, 1) := by decide +kernel
theorem dX3_in_7 : decode cX3_in 7 = .ok (.if_icmp .gt 7, 3) := by decide +kernel
theorem dX3_in_10 : decode cX3_in 10 = .ok (.iconst 1, 1) := by decide +kernel
theorem dX3_in_11 : decode cX3_in 11 = .ok (.goto 4, 3) := by decide +kernel
theorem dX3_in_14 : decode cX3_in 14 = .ok (.iconst 0, 1) := by decide +kernel
theorem dX3_in_15 : decode cX3_in 15 = .ok (.ireturn, 1) := by decide +kernel
theorem dX3_mark_0 : decode cX3_mark 0 = .ok (.iconst 0, 1) := by decide +kernel
theorem dX3_mark_1 : decode cX3_mark 1 = .ok (.istore 4, 2) := by decide +kernel
theorem dX3_mark_3 : decode cX3_mark 3 = .ok (.iload_n 2, 1) := by decide +kernel
theorem dX3_mark_4 : decode cX3_mark 4 = .ok (.istore 5, 2) := by decide +kernel
theorem dX3_mark_6 : decode cX3_mark 6 = .ok (.iload 5, 2) := by decide +kernel
theorem dX3_mark_8 : decode cX3_mark 8 = .ok (.aload_n 0, 1) := by decide +kernel
theorem dX3_mark_9 : decode cX3_mark 9 = .ok (.getfield 16, 3) := by decide +kernel
theorem dX3_mark_12 : decode cX3_mark 12 = .ok (.iload_n 1, 1) := by decide +kernel
theorem dX3_mark_13 : decode cX3_mark 13 = .ok (.iaload, 1) := by decide +kernel
theorem dX3_mark_14 : decode cX3_mark 14 = .ok (.if_icmp .ge 51, 3) := by decide +kernel
theorem dX3_mark_17 : decode cX3_mark 17 = .ok (.iload 4, 2) := by decide +kernel
theorem dX3_mark_19 : decode cX3_mark 19 = .ok (.iload_n 3, 1) := by decide +kernel
theorem dX3_mark_20 : decode cX3_mark 20 = .ok (.if_icmp .ge 45, 3) := by decide +kernel
theorem dX3_mark_23 : decode cX3_mark 23 = .ok (.aload_n 0, 1) := by decide +kernel
theorem dX3_mark_24 : decode cX3_mark 24 = .ok (.getfield 26, 3) := by decide +kernel
theorem dX3_mark_27 : decode cX3_mark 27 = .ok (.bipush 20, 2) := by decide +kernel
theorem dX3_mark_29 : decode cX3_mark 29 = .ok (.iload_n 1, 1) := by decide +kernel
theorem dX3_mark_30 : decode cX3_mark 30 = .ok (.imul, 1) := by decide +kernel
theorem dX3_mark_31 : decode cX3_mark 31 = .ok (.iload 5, 2) := by decide +kernel
theorem dX3_mark_33 : decode cX3_mark 33 = .ok (.iadd, 1) := by decide +kernel
theorem dX3_mark_34 : decode cX3_mark 34 = .ok (.iaload, 1) := by decide +kernel
theorem dX3_mark_35 : decode cX3_mark 35 = .ok (.bipush (-8), 2) := by decide +kernel
theorem dX3_mark_37 : decode cX3_mark 37 = .ok (.if_icmp .ne 22, 3) := by decide +kernel
theorem dX3_mark_40 : decode cX3_mark 40 = .ok (.aload_n 0, 1) := by decide +kernel
theorem dX3_mark_41 : decode cX3_mark 41 = .ok (.getfield 26, 3) := by decide +kernel
theorem dX3_mark_44 : decode cX3_mark 44 = .ok (.bipush 20, 2) := by decide +kernel
theorem dX3_mark_46 : decode cX3_mark 46 = .ok (.iload_n 1, 1) := by decide +kernel
theorem dX3_mark_47 : decode cX3_mark 47 = .ok (.imul, 1) := by decide +kernel
theorem dX3_mark_48 : decode cX3_mark 48 = .ok (.iload 5, 2) := by decide +kernel
theorem dX3_mark_50 : decode cX3_mark 50 = .ok (.iadd, 1) := by decide +kernel
theorem dX3_mark_51 : decode cX3_mark 51 = .ok (.aload_n 0, 1) := by decide +kernel
theorem dX3_mark_52 : decode cX3_mark 52 = .ok (.getfield 54, 3) := by decide +kernel
theorem dX3_mark_55 : decode cX3_mark 55 = .ok (.iastore, 1) := by decide +kernel
theorem dX3_mark_56 : decode cX3_mark 56 = .ok (.iinc 4 1, 3) := by decide +kernel
theorem dX3_mark_59 : decode cX3_mark 59 = .ok (.iinc 5 1, 3) := by decide +kernel
theorem dX3_mark_62 : decode cX3_mark 62 = .ok (.goto (-56), 3) := by decide +kernel
theorem dX3_mark_65 : decode cX3_mark 65 = .ok (.iload 4, 2) := by decide +kernel
theorem dX3_mark_67 : decode cX3_mark 67 = .ok (.ireturn, 1) := by decide +kernel
theorem dX3_stretch_0 : decode cX3_stretch 0 = .ok (.iconst 0, 1) := by decide +kernel
theorem dX3_stretch_1 : decode cX3_stretch 1 = .ok (.istore_n 3, 1) := by decide +kernel
theorem dX3_stretch_2 : decode cX3_stretch 2 = .ok (.aload_n 0, 1) := by decide +kernel
theorem dX3_stretch_3 : decode cX3_stretch 3 = .ok (.iconst 0, 1) := by decide +kernel
theorem dX3_stretch_4 : decode cX3_stretch 4 = .ok (.putfield 57, 3) := by decide +kernel
theorem dX3_stretch_7 : decode cX3_stretch 7 = .ok (.iconst 0, 1) := by decide +kernel
theorem dX3_stretch_8 : decode cX3_stretch 8 = .ok (.istore 4, 2) := by decide +kernel
theorem dX3_stretch_10 : decode cX3_stretch 10 = .ok (.iload 4, 2) := by decide +kernel
theorem dX3_stretch_12 : decode cX3_stretch 12 = .ok (.aload_n 0, 1) := by decide +kernel
theorem dX3_stretch_13 : decode cX3_stretch 13 = .ok (.getfield 16, 3) := by decide +kernel
theorem dX3_stretch_16 : decode cX3_stretch 16 = .ok (.iload_n 1, 1) := by decide +kernel
theorem dX3_stretch_17 : decode cX3_stretch 17 = .ok (.iaload, 1) := by decide +kernel
theorem dX3_stretch_18 : decode cX3_stretch 18 = .ok (.if_icmp .ge 82, 3) := by decide +kernel
theorem dX3_stretch_21 : decode cX3_stretch 21 = .ok (.aload_n 0, 1) := by decide +kernel
theorem dX3_stretch_22 : decode cX3_stretch 22 = .ok (.getfield 57, 3) := by decide +kernel
theorem dX3_stretch_25 : decode cX3_stretch 25 = .ok (.iload_n 2, 1) := by decide +kernel
theorem dX3_stretch_26 : decode cX3_stretch 26 = .ok (.if_icmp .ge 74, 3) := by decide +kernel
theorem dX3_stretch_29 : decode cX3_stretch 29 = .ok (.iload 4, 2) := by decide +kernel
theorem dX3_stretch_31 : decode cX3_stretch 31 = .ok (.istore 5, 2) := by decide +kernel
theorem dX3_stretch_33 : decode cX3_stretch 33 = .ok (.iload 5, 2) := by decide +kernel
theorem dX3_stretch_35 : decode cX3_stretch 35 = .ok (.aload_n 0, 1) := by decide +kernel
theorem dX3_stretch_36 : decode cX3_stretch 36 = .ok (.getfield 16, 3) := by decide +kernel
theorem dX3_stretch_39 : decode cX3_stretch 39 = .ok (.iload_n 1, 1) := by decide +kernel
theorem dX3_stretch_40 : decode cX3_stretch 40 = .ok (.iaload, 1) := by decide +kernel
theorem dX3_stretch_41 : decode cX3_stretch 41 = .ok (.if_icmp .ge 26, 3) := by decide +kernel
theorem dX3_stretch_44 : decode cX3_stretch 44 = .ok (.aload_n 0, 1) := by decide +kernel
theorem dX3_stretch_45 : decode cX3_stretch 45 = .ok (.getfield 26, 3) := by decide +kernel
theorem dX3_stretch_48 : decode cX3_stretch 48 = .ok (.bipush 20, 2) := by decide +kernel
theorem dX3_stretch_50 : decode cX3_stretch 50 = .ok (.iload_n 1, 1) := by decide +kernel
theorem dX3_stretch_51 : decode cX3_stretch 51 = .ok (.imul, 1) := by decide +kernel
theorem dX3_stretch_52 : decode cX3_stretch 52 = .ok (.iload 5, 2) := by decide +kernel
theorem dX3_stretch_54 : decode cX3_stretch 54 = .ok (.iadd, 1) := by decide +kernel
theorem dX3_stretch_55 : decode cX3_stretch 55 = .ok (.iaload, 1) := by decide +kernel
theorem dX3_stretch_56 : decode cX3_stretch 56 = .ok (.bipush (-8), 2) := by decide +kernel
theorem dX3_stretch_58 : decode cX3_stretch 58 = .ok (.if_icmp .ne 9, 3) := by decide +kernel
theorem dX3_stretch_61 : decode cX3_stretch 61 = .ok (.iinc 5 1, 3) := by decide +kernel
theorem dX3_stretch_64 : decode cX3_stretch 64 = .ok (.goto (-31), 3) := by decide +kernel
theorem dX3_stretch_67 : decode cX3_stretch 67 = .ok (.iload 5, 2) := by decide +kernel
theorem dX3_stretch_69 : decode cX3_stretch 69 = .ok (.iload 4, 2) := by decide +kernel
theorem dX3_stretch_71 : decode cX3_stretch 71 = .ok (.isub, 1) := by decide +kernel
theorem dX3_stretch_72 : decode cX3_stretch 72 = .ok (.aload_n 0, 1) := by decide +kernel
theorem dX3_stretch_73 : decode cX3_stretch 73 = .ok (.getfield 57, 3) := by decide +kernel
theorem dX3_stretch_76 : decode cX3_stretch 76 = .ok (.if_icmp .le 15, 3) := by decide +kernel
theorem dX3_stretch_79 : decode cX3_stretch 79 = .ok (.iload 4, 2) := by decide +kernel
theorem dX3_stretch_81 : decode cX3_stretch 81 = .ok (.istore_n 3, 1) := by decide +kernel
theorem dX3_stretch_82 : decode cX3_stretch 82 = .ok (.aload_n 0, 1) := by decide +kernel
theorem dX3_stretch_83 : decode cX3_stretch 83 = .ok (.iload 5, 2) := by decide +kernel
theorem dX3_stretch_85 : decode cX3_stretch 85 = .ok (.iload 4, 2) := by decide +kernel
theorem dX3_stretch_87 : decode cX3_stretch 87 = .ok (.isub, 1) := by decide +kernel
theorem dX3_stretch_88 : decode cX3_stretch 88 = .ok (.putfield 57, 3) := by decide +kernel
theorem dX3_stretch_91 : decode cX3_stretch 91 = .ok (.iload 5, 2) := by decide +kernel
theorem dX3_stretch_93 : decode cX3_stretch 93 = .ok (.iconst 1, 1) := by decide +kernel
theorem dX3_stretch_94 : decode cX3_stretch 94 = .ok (.iadd, 1) := by decide +kernel
theorem dX3_stretch_95 : decode cX3_stretch 95 = .ok (.istore 4, 2) := by decide +kernel
theorem dX3_stretch_97 : decode cX3_stretch 97 = .ok (.goto (-87), 3) := by decide +kernel
theorem dX3_stretch_100 : decode cX3_stretch 100 = .ok (.iload_n 3, 1) := by decide +kernel
theorem dX3_stretch_101 : decode cX3_stretch 101 = .ok (.ireturn, 1) := by decide +kernel
theorem dX3_takes_0 : decode cX3_takes 0 = .ok (.aload_n 0, 1) := by decide +kernel
theorem dX3_takes_1 : decode cX3_takes 1 = .ok (.getfield 13, 3) := by decide +kernel
theorem dX3_takes_4 : decode cX3_takes 4 = .ok (.iload_n 1, 1) := by decide +kernel
theorem dX3_takes_5 : decode cX3_takes 5 = .ok (.baload, 1) := by decide +kernel
theorem dX3_takes_6 : decode cX3_takes 6 = .ok (.ifCond .ne 11, 3) := by decide +kernel
theorem dX3_takes_9 : decode cX3_takes 9 = .ok (.aload_n 0, 1) := by decide +kernel
theorem dX3_takes_10 : decode cX3_takes 10 = .ok (.iload_n 1, 1) := by decide +kernel
theorem dX3_takes_11 : decode cX3_takes 11 = .ok (.iconst 0, 1) := by decide +kernel
theorem dX3_takes_12 : decode cX3_takes 12 = .ok (.iload_n 2, 1) := by decide +kernel
theorem dX3_takes_13 : decode cX3_takes 13 = .ok (.invokevirtual 60, 3) := by decide +kernel
theorem dX3_takes_16 : decode cX3_takes 16 = .ok (.ireturn, 1) := by decide +kernel
theorem dX3_takes_17 : decode cX3_takes 17 = .ok (.aload_n 0, 1) := by decide +kernel
theorem dX3_takes_18 : decode cX3_takes 18 = .ok (.iload_n 1, 1) := by decide +kernel
theorem dX3_takes_19 : decode cX3_takes 19 = .ok (.iload_n 2, 1) := by decide +kernel
theorem dX3_takes_20 : decode cX3_takes 20 = .ok (.invokevirtual 64, 3) := by decide +kernel
theorem dX3_takes_23 : decode cX3_takes 23 = .ok (.istore_n 3, 1) := by decide +kernel
theorem dX3_takes_24 : decode cX3_takes 24 = .ok (.aload_n 0, 1) := by decide +kernel
theorem dX3_takes_25 : decode cX3_takes 25 = .ok (.iload_n 1, 1) := by decide +kernel
theorem dX3_takes_26 : decode cX3_takes 26 = .ok (.iload_n 3, 1) := by decide +kernel
theorem dX3_takes_27 : decode cX3_takes 27 = .ok (.aload_n 0, 1) := by decide +kernel
theorem dX3_takes_28 : decode cX3_takes 28 = .ok (.getfield 57, 3) := by decide +kernel
theorem dX3_takes_31 : decode cX3_takes 31 = .ok (.iload_n 2, 1) := by decide +kernel
theorem dX3_takes_32 : decode cX3_takes 32 = .ok (.if_icmp .ge 10, 3) := by decide +kernel
theorem dX3_takes_35 : decode cX3_takes 35 = .ok (.aload_n 0, 1) := by decide +kernel
theorem dX3_takes_36 : decode cX3_takes 36 = .ok (.getfield 57, 3) := by decide +kernel
theorem dX3_takes_39 : decode cX3_takes 39 = .ok (.goto 4, 3) := by decide +kernel
theorem dX3_takes_42 : decode cX3_takes 42 = .ok (.iload_n 2, 1) := by decide +kernel
theorem dX3_takes_43 : decode cX3_takes 43 = .ok (.invokevirtual 60, 3) := by decide +kernel
theorem dX3_takes_46 : decode cX3_takes 46 = .ok (.ireturn, 1) := by decide +kernel
theorem dX3_giveBack_0 : decode cX3_giveBack 0 = .ok (.iload_n 1, 1) := by decide +kernel
theorem dX3_giveBack_1 : decode cX3_giveBack 1 = .ok (.iconst 1, 1) := by decide +kernel
theorem dX3_giveBack_2 : decode cX3_giveBack 2 = .ok (.isub, 1) := by decide +kernel
theorem dX3_giveBack_3 : decode cX3_giveBack 3 = .ok (.istore_n 2, 1) := by decide +kernel
theorem dX3_giveBack_4 : decode cX3_giveBack 4 = .ok (.iload_n 2, 1) := by decide +kernel
theorem dX3_giveBack_5 : decode cX3_giveBack 5 = .ok (.ifCond .lt 37, 3) := by decide +kernel
theorem dX3_giveBack_8 : decode cX3_giveBack 8 = .ok (.aload_n 0, 1) := by decide +kernel
theorem dX3_giveBack_9 : decode cX3_giveBack 9 = .ok (.getfield 23, 3) := by decide +kernel
theorem dX3_giveBack_12 : decode cX3_giveBack 12 = .ok (.aload_n 0, 1) := by decide +kernel
theorem dX3_giveBack_13 : decode cX3_giveBack 13 = .ok (.getfield 44, 3) := by decide +kernel
theorem dX3_giveBack_16 : decode cX3_giveBack 16 = .ok (.iload_n 2, 1) := by decide +kernel
theorem dX3_giveBack_17 : decode cX3_giveBack 17 = .ok (.iaload, 1) := by decide +kernel
theorem dX3_giveBack_18 : decode cX3_giveBack 18 = .ok (.dup2, 1) := by decide +kernel
theorem dX3_giveBack_19 : decode cX3_giveBack 19 = .ok (.iaload, 1) := by decide +kernel
theorem dX3_giveBack_20 : decode cX3_giveBack 20 = .ok (.aload_n 0, 1) := by decide +kernel
theorem dX3_giveBack_21 : decode cX3_giveBack 21 = .ok (.getfield 47, 3) := by decide +kernel
theorem dX3_giveBack_24 : decode cX3_giveBack 24 = .ok (.iload_n 2, 1) := by decide +kernel
theorem dX3_giveBack_25 : decode cX3_giveBack 25 = .ok (.iaload, 1) := by decide +kernel
theorem dX3_giveBack_26 : decode cX3_giveBack 26 = .ok (.ifCond .le 7, 3) := by decide +kernel
theorem dX3_giveBack_29 : decode cX3_giveBack 29 = .ok (.iconst 1, 1) := by decide +kernel
theorem dX3_giveBack_30 : decode cX3_giveBack 30 = .ok (.goto 4, 3) := by decide +kernel
theorem dX3_giveBack_33 : decode cX3_giveBack 33 = .ok (.iconst 0, 1) := by decide +kernel
theorem dX3_giveBack_34 : decode cX3_giveBack 34 = .ok (.iadd, 1) := by decide +kernel
theorem dX3_giveBack_35 : decode cX3_giveBack 35 = .ok (.iastore, 1) := by decide +kernel
theorem dX3_giveBack_36 : decode cX3_giveBack 36 = .ok (.iinc 2 (-1), 3) := by decide +kernel
theorem dX3_giveBack_39 : decode cX3_giveBack 39 = .ok (.goto (-35), 3) := by decide +kernel
theorem dX3_giveBack_42 : decode cX3_giveBack 42 = .ok (.iconst 0, 1) := by decide +kernel
theorem dX3_giveBack_43 : decode cX3_giveBack 43 = .ok (.istore_n 2, 1) := by decide +kernel
theorem dX3_giveBack_44 : decode cX3_giveBack 44 = .ok (.iload_n 2, 1) := by decide +kernel
theorem dX3_giveBack_45 : decode cX3_giveBack 45 = .ok (.sipush 200, 3) := by decide +kernel
theorem dX3_giveBack_48 : decode cX3_giveBack 48 = .ok (.if_icmp .ge 39, 3) := by decide +kernel
theorem dX3_giveBack_51 : decode cX3_giveBack 51 = .ok (.aload_n 0, 1) := by decide +kernel
theorem dX3_giveBack_52 : decode cX3_giveBack 52 = .ok (.getfield 26, 3) := by decide +kernel
theorem dX3_giveBack_55 : decode cX3_giveBack 55 = .ok (.iload_n 2, 1) := by decide +kernel
theorem dX3_giveBack_56 : decode cX3_giveBack 56 = .ok (.aload_n 0, 1) := by decide +kernel
theorem dX3_giveBack_57 : decode cX3_giveBack 57 = .ok (.getfield 26, 3) := by decide +kernel
theorem dX3_giveBack_60 : decode cX3_giveBack 60 = .ok (.iload_n 2, 1) := by decide +kernel
theorem dX3_giveBack_61 : decode cX3_giveBack 61 = .ok (.iaload, 1) := by decide +kernel
theorem dX3_giveBack_62 : decode cX3_giveBack 62 = .ok (.aload_n 0, 1) := by decide +kernel
theorem dX3_giveBack_63 : decode cX3_giveBack 63 = .ok (.getfield 54, 3) := by decide +kernel
theorem dX3_giveBack_66 : decode cX3_giveBack 66 = .ok (.if_icmp .ne 8, 3) := by decide +kernel
theorem dX3_giveBack_69 : decode cX3_giveBack 69 = .ok (.bipush (-8), 2) := by decide +kernel
theorem dX3_giveBack_71 : decode cX3_giveBack 71 = .ok (.goto 9, 3) := by decide +kernel
theorem dX3_giveBack_74 : decode cX3_giveBack 74 = .ok (.aload_n 0, 1) := by decide +kernel
theorem dX3_giveBack_75 : decode cX3_giveBack 75 = .ok (.getfield 26, 3) := by decide +kernel
theorem dX3_giveBack_78 : decode cX3_giveBack 78 = .ok (.iload_n 2, 1) := by decide +kernel
theorem dX3_giveBack_79 : decode cX3_giveBack 79 = .ok (.iaload, 1) := by decide +kernel
theorem dX3_giveBack_80 : decode cX3_giveBack 80 = .ok (.iastore, 1) := by decide +kernel
theorem dX3_giveBack_81 : decode cX3_giveBack 81 = .ok (.iinc 2 1, 3) := by decide +kernel
theorem dX3_giveBack_84 : decode cX3_giveBack 84 = .ok (.goto (-40), 3) := by decide +kernel
theorem dX3_giveBack_87 : decode cX3_giveBack 87 = .ok (.return_, 1) := by decide +kernel
theorem dX3_goes_0 : decode cX3_goes 0 = .ok (.iload_n 1, 1) := by decide +kernel
theorem dX3_goes_1 : decode cX3_goes 1 = .ok (.istore_n 3, 1) := by decide +kernel
theorem dX3_goes_2 : decode cX3_goes 2 = .ok (.bipush (-4), 2) := by decide +kernel
theorem dX3_goes_4 : decode cX3_goes 4 = .ok (.istore 4, 2) := by decide +kernel
theorem dX3_goes_6 : decode cX3_goes 6 = .ok (.iconst 0, 1) := by decide +kernel
theorem dX3_goes_7 : decode cX3_goes 7 = .ok (.istore 5, 2) := by decide +kernel
theorem dX3_goes_9 : decode cX3_goes 9 = .ok (.iconst 1, 1) := by decide +kernel
theorem dX3_goes_10 : decode cX3_goes 10 = .ok (.istore 6, 2) := by decide +kernel
theorem dX3_goes_12 : decode cX3_goes 12 = .ok (.iload 6, 2) := by decide +kernel
theorem dX3_goes_14 : decode cX3_goes 14 = .ok (.ifCond .eq 125, 3) := by decide +kernel
theorem dX3_goes_17 : decode cX3_goes 17 = .ok (.iload 5, 2) := by decide +kernel
theorem dX3_goes_19 : decode cX3_goes 19 = .ok (.aload_n 0, 1) := by decide +kernel
theorem dX3_goes_20 : decode cX3_goes 20 = .ok (.getfield 68, 3) := by decide +kernel
theorem dX3_goes_23 : decode cX3_goes 23 = .ok (.if_icmp .ge 116, 3) := by decide +kernel
theorem dX3_goes_26 : decode cX3_goes 26 = .ok (.iload_n 3, 1) := by decide +kernel
theorem dX3_goes_27 : decode cX3_goes 27 = .ok (.ifCond .le 112, 3) := by decide +kernel
theorem dX3_goes_30 : decode cX3_goes 30 = .ok (.aload_n 0, 1) := by decide +kernel
theorem dX3_goes_31 : decode cX3_goes 31 = .ok (.getfield 44, 3) := by decide +kernel
theorem dX3_goes_34 : decode cX3_goes 34 = .ok (.iload 5, 2) := by decide +kernel
theorem dX3_goes_36 : decode cX3_goes 36 = .ok (.iaload, 1) := by decide +kernel
theorem dX3_goes_37 : decode cX3_goes 37 = .ok (.istore 7, 2) := by decide +kernel
theorem dX3_goes_39 : decode cX3_goes 39 = .ok (.iload 7, 2) := by decide +kernel
theorem dX3_goes_41 : decode cX3_goes 41 = .ok (.bipush 10, 2) := by decide +kernel
theorem dX3_goes_43 : decode cX3_goes 43 = .ok (.if_icmp .lt 13, 3) := by decide +kernel
theorem dX3_goes_46 : decode cX3_goes 46 = .ok (.bipush (-6), 2) := by decide +kernel
theorem dX3_goes_48 : decode cX3_goes 48 = .ok (.istore 4, 2) := by decide +kernel
theorem dX3_goes_50 : decode cX3_goes 50 = .ok (.iconst 0, 1) := by decide +kernel
theorem dX3_goes_51 : decode cX3_goes 51 = .ok (.istore 6, 2) := by decide +kernel
theorem dX3_goes_53 : decode cX3_goes 53 = .ok (.goto 83, 3) := by decide +kernel
theorem dX3_goes_56 : decode cX3_goes 56 = .ok (.aload_n 0, 1) := by decide +kernel
theorem dX3_goes_57 : decode cX3_goes 57 = .ok (.getfield 7, 3) := by decide +kernel
theorem dX3_goes_60 : decode cX3_goes 60 = .ok (.iload 7, 2) := by decide +kernel
theorem dX3_goes_62 : decode cX3_goes 62 = .ok (.baload, 1) := by decide +kernel
theorem dX3_goes_63 : decode cX3_goes 63 = .ok (.ifCond .ne 13, 3) := by decide +kernel
theorem dX3_goes_66 : decode cX3_goes 66 = .ok (.bipush (-5), 2) := by decide +kernel
theorem dX3_goes_68 : decode cX3_goes 68 = .ok (.istore 4, 2) := by decide +kernel
theorem dX3_goes_70 : decode cX3_goes 70 = .ok (.iconst 0, 1) := by decide +kernel
theorem dX3_goes_71 : decode cX3_goes 71 = .ok (.istore 6, 2) := by decide +kernel
theorem dX3_goes_73 : decode cX3_goes 73 = .ok (.goto 63, 3) := by decide +kernel
theorem dX3_goes_76 : decode cX3_goes 76 = .ok (.aload_n 0, 1) := by decide +kernel
theorem dX3_goes_77 : decode cX3_goes 77 = .ok (.getfield 20, 3) := by decide +kernel
theorem dX3_goes_80 : decode cX3_goes 80 = .ok (.iload 7, 2) := by decide +kernel
theorem dX3_goes_82 : decode cX3_goes 82 = .ok (.dup2, 1) := by decide +kernel
theorem dX3_goes_83 : decode cX3_goes 83 = .ok (.iaload, 1) := by decide +kernel
theorem dX3_goes_84 : decode cX3_goes 84 = .ok (.iconst 1, 1) := by decide +kernel
theorem dX3_goes_85 : decode cX3_goes 85 = .ok (.iadd, 1) := by decide +kernel
theorem dX3_goes_86 : decode cX3_goes 86 = .ok (.iastore, 1) := by decide +kernel
theorem dX3_goes_87 : decode cX3_goes 87 = .ok (.aload_n 0, 1) := by decide +kernel
theorem dX3_goes_88 : decode cX3_goes 88 = .ok (.getfield 47, 3) := by decide +kernel
theorem dX3_goes_91 : decode cX3_goes 91 = .ok (.iload 5, 2) := by decide +kernel
theorem dX3_goes_93 : decode cX3_goes 93 = .ok (.aload_n 0, 1) := by decide +kernel
theorem dX3_goes_94 : decode cX3_goes 94 = .ok (.iload 7, 2) := by decide +kernel
theorem dX3_goes_96 : decode cX3_goes 96 = .ok (.iload_n 3, 1) := by decide +kernel
theorem dX3_goes_97 : decode cX3_goes 97 = .ok (.invokevirtual 71, 3) := by decide +kernel
theorem dX3_goes_100 : decode cX3_goes 100 = .ok (.iastore, 1) := by decide +kernel
theorem dX3_goes_101 : decode cX3_goes 101 = .ok (.iload_n 3, 1) := by decide +kernel
theorem dX3_goes_102 : decode cX3_goes 102 = .ok (.aload_n 0, 1) := by decide +kernel
theorem dX3_goes_103 : decode cX3_goes 103 = .ok (.getfield 47, 3) := by decide +kernel
theorem dX3_goes_106 : decode cX3_goes 106 = .ok (.iload 5, 2) := by decide +kernel
theorem dX3_goes_108 : decode cX3_goes 108 = .ok (.iaload, 1) := by decide +kernel
theorem dX3_goes_109 : decode cX3_goes 109 = .ok (.isub, 1) := by decide +kernel
theorem dX3_goes_110 : decode cX3_goes 110 = .ok (.istore_n 3, 1) := by decide +kernel
theorem dX3_goes_111 : decode cX3_goes 111 = .ok (.iinc 5 1, 3) := by decide +kernel
theorem dX3_goes_114 : decode cX3_goes 114 = .ok (.aload_n 0, 1) := by decide +kernel
theorem dX3_goes_115 : decode cX3_goes 115 = .ok (.iload 5, 2) := by decide +kernel
theorem dX3_goes_117 : decode cX3_goes 117 = .ok (.aload_n 0, 1) := by decide +kernel
theorem dX3_goes_118 : decode cX3_goes 118 = .ok (.getfield 74, 3) := by decide +kernel
theorem dX3_goes_121 : decode cX3_goes 121 = .ok (.if_icmp .le 8, 3) := by decide +kernel
theorem dX3_goes_124 : decode cX3_goes 124 = .ok (.iload 5, 2) := by decide +kernel
theorem dX3_goes_126 : decode cX3_goes 126 = .ok (.goto 7, 3) := by decide +kernel
theorem dX3_goes_129 : decode cX3_goes 129 = .ok (.aload_n 0, 1) := by decide +kernel
theorem dX3_goes_130 : decode cX3_goes 130 = .ok (.getfield 74, 3) := by decide +kernel
theorem dX3_goes_133 : decode cX3_goes 133 = .ok (.putfield 74, 3) := by decide +kernel
theorem dX3_goes_136 : decode cX3_goes 136 = .ok (.goto (-124), 3) := by decide +kernel
theorem dX3_goes_139 : decode cX3_goes 139 = .ok (.iload_n 3, 1) := by decide +kernel
theorem dX3_goes_140 : decode cX3_goes 140 = .ok (.ifCond .eq 13, 3) := by decide +kernel
theorem dX3_goes_143 : decode cX3_goes 143 = .ok (.iload_n 2, 1) := by decide +kernel
theorem dX3_goes_144 : decode cX3_goes 144 = .ok (.iconst 1, 1) := by decide +kernel
theorem dX3_goes_145 : decode cX3_goes 145 = .ok (.if_icmp .ne 25, 3) := by decide +kernel
theorem dX3_goes_148 : decode cX3_goes 148 = .ok (.iload_n 3, 1) := by decide +kernel
theorem dX3_goes_149 : decode cX3_goes 149 = .ok (.iload_n 1, 1) := by decide +kernel
theorem dX3_goes_150 : decode cX3_goes 150 = .ok (.if_icmp .ge 20, 3) := by decide +kernel
theorem dX3_goes_153 : decode cX3_goes 153 = .ok (.aload_n 0, 1) := by decide +kernel
theorem dX3_goes_154 : decode cX3_goes 154 = .ok (.dup, 1) := by decide +kernel
theorem dX3_goes_155 : decode cX3_goes 155 = .ok (.getfield 54, 3) := by decide +kernel
theorem dX3_goes_158 : decode cX3_goes 158 = .ok (.iconst 1, 1) := by decide +kernel
theorem dX3_goes_159 : decode cX3_goes 159 = .ok (.iadd, 1) := by decide +kernel
theorem dX3_goes_160 : decode cX3_goes 160 = .ok (.putfield 54, 3) := by decide +kernel
theorem dX3_goes_163 : decode cX3_goes 163 = .ok (.aload_n 0, 1) := by decide +kernel
theorem dX3_goes_164 : decode cX3_goes 164 = .ok (.getfield 54, 3) := by decide +kernel
theorem dX3_goes_167 : decode cX3_goes 167 = .ok (.iconst 1, 1) := by decide +kernel
theorem dX3_goes_168 : decode cX3_goes 168 = .ok (.isub, 1) := by decide +kernel
theorem dX3_goes_169 : decode cX3_goes 169 = .ok (.ireturn, 1) := by decide +kernel
theorem dX3_goes_170 : decode cX3_goes 170 = .ok (.aload_n 0, 1) := by decide +kernel
theorem dX3_goes_171 : decode cX3_goes 171 = .ok (.iload 5, 2) := by decide +kernel
theorem dX3_goes_173 : decode cX3_goes 173 = .ok (.invokevirtual 77, 3) := by decide +kernel
theorem dX3_goes_176 : decode cX3_goes 176 = .ok (.aload_n 0, 1) := by decide +kernel
theorem dX3_goes_177 : decode cX3_goes 177 = .ok (.dup, 1) := by decide +kernel
theorem dX3_goes_178 : decode cX3_goes 178 = .ok (.getfield 81, 3) := by decide +kernel
theorem dX3_goes_181 : decode cX3_goes 181 = .ok (.iconst 1, 1) := by decide +kernel
theorem dX3_goes_182 : decode cX3_goes 182 = .ok (.iadd, 1) := by decide +kernel
theorem dX3_goes_183 : decode cX3_goes 183 = .ok (.putfield 81, 3) := by decide +kernel
theorem dX3_goes_186 : decode cX3_goes 186 = .ok (.iload 4, 2) := by decide +kernel
theorem dX3_goes_188 : decode cX3_goes 188 = .ok (.ireturn, 1) := by decide +kernel
theorem dX3_removed_0 : decode cX3_removed 0 = .ok (.aload_n 0, 1) := by decide +kernel
theorem dX3_removed_1 : decode cX3_removed 1 = .ok (.dup, 1) := by decide +kernel
theorem dX3_removed_2 : decode cX3_removed 2 = .ok (.getfield 84, 3) := by decide +kernel
theorem dX3_removed_5 : decode cX3_removed 5 = .ok (.iconst 1, 1) := by decide +kernel
theorem dX3_removed_6 : decode cX3_removed 6 = .ok (.isub, 1) := by decide +kernel
theorem dX3_removed_7 : decode cX3_removed 7 = .ok (.putfield 84, 3) := by decide +kernel
theorem dX3_removed_10 : decode cX3_removed 10 = .ok (.iload_n 1, 1) := by decide +kernel
theorem dX3_removed_11 : decode cX3_removed 11 = .ok (.istore_n 2, 1) := by decide +kernel
theorem dX3_removed_12 : decode cX3_removed 12 = .ok (.iload_n 2, 1) := by decide +kernel
theorem dX3_removed_13 : decode cX3_removed 13 = .ok (.aload_n 0, 1) := by decide +kernel
theorem dX3_removed_14 : decode cX3_removed 14 = .ok (.getfield 84, 3) := by decide +kernel
theorem dX3_removed_17 : decode cX3_removed 17 = .ok (.if_icmp .ge 76, 3) := by decide +kernel
theorem dX3_removed_20 : decode cX3_removed 20 = .ok (.aload_n 0, 1) := by decide +kernel
theorem dX3_removed_21 : decode cX3_removed 21 = .ok (.getfield 35, 3) := by decide +kernel
theorem dX3_removed_24 : decode cX3_removed 24 = .ok (.iload_n 2, 1) := by decide +kernel
theorem dX3_removed_25 : decode cX3_removed 25 = .ok (.aload_n 0, 1) := by decide +kernel
theorem dX3_removed_26 : decode cX3_removed 26 = .ok (.getfield 35, 3) := by decide +kernel
theorem dX3_removed_29 : decode cX3_removed 29 = .ok (.iload_n 2, 1) := by decide +kernel
theorem dX3_removed_30 : decode cX3_removed 30 = .ok (.iconst 1, 1) := by decide +kernel
theorem dX3_removed_31 : decode cX3_removed 31 = .ok (.iadd, 1) := by decide +kernel
theorem dX3_removed_32 : decode cX3_removed 32 = .ok (.iaload, 1) := by decide +kernel
theorem dX3_removed_33 : decode cX3_removed 33 = .ok (.iastore, 1) := by decide +kernel
theorem dX3_removed_34 : decode cX3_removed 34 = .ok (.aload_n 0, 1) := by decide +kernel
theorem dX3_removed_35 : decode cX3_removed 35 = .ok (.getfield 41, 3) := by decide +kernel
theorem dX3_removed_38 : decode cX3_removed 38 = .ok (.iload_n 2, 1) := by decide +kernel
theorem dX3_removed_39 : decode cX3_removed 39 = .ok (.aload_n 0, 1) := by decide +kernel
theorem dX3_removed_40 : decode cX3_removed 40 = .ok (.getfield 41, 3) := by decide +kernel
theorem dX3_removed_43 : decode cX3_removed 43 = .ok (.iload_n 2, 1) := by decide +kernel
theorem dX3_removed_44 : decode cX3_removed 44 = .ok (.iconst 1, 1) := by decide +kernel
theorem dX3_removed_45 : decode cX3_removed 45 = .ok (.iadd, 1) := by decide +kernel
theorem dX3_removed_46 : decode cX3_removed 46 = .ok (.iaload, 1) := by decide +kernel
theorem dX3_removed_47 : decode cX3_removed 47 = .ok (.iastore, 1) := by decide +kernel
theorem dX3_removed_48 : decode cX3_removed 48 = .ok (.iconst 0, 1) := by decide +kernel
theorem dX3_removed_49 : decode cX3_removed 49 = .ok (.istore_n 3, 1) := by decide +kernel
theorem dX3_removed_50 : decode cX3_removed 50 = .ok (.iload_n 3, 1) := by decide +kernel
theorem dX3_removed_51 : decode cX3_removed 51 = .ok (.bipush 6, 2) := by decide +kernel
theorem dX3_removed_53 : decode cX3_removed 53 = .ok (.if_icmp .ge 34, 3) := by decide +kernel
theorem dX3_removed_56 : decode cX3_removed 56 = .ok (.aload_n 0, 1) := by decide +kernel
theorem dX3_removed_57 : decode cX3_removed 57 = .ok (.getfield 38, 3) := by decide +kernel
theorem dX3_removed_60 : decode cX3_removed 60 = .ok (.bipush 6, 2) := by decide +kernel
theorem dX3_removed_62 : decode cX3_removed 62 = .ok (.iload_n 2, 1) := by decide +kernel
theorem dX3_removed_63 : decode cX3_removed 63 = .ok (.imul, 1) := by decide +kernel
theorem dX3_removed_64 : decode cX3_removed 64 = .ok (.iload_n 3, 1) := by decide +kernel
theorem dX3_removed_65 : decode cX3_removed 65 = .ok (.iadd, 1) := by decide +kernel
theorem dX3_removed_66 : decode cX3_removed 66 = .ok (.aload_n 0, 1) := by decide +kernel
theorem dX3_removed_67 : decode cX3_removed 67 = .ok (.getfield 38, 3) := by decide +kernel
theorem dX3_removed_70 : decode cX3_removed 70 = .ok (.bipush 6, 2) := by decide +kernel
theorem dX3_removed_72 : decode cX3_removed 72 = .ok (.iload_n 2, 1) := by decide +kernel
theorem dX3_removed_73 : decode cX3_removed 73 = .ok (.imul, 1) := by decide +kernel
theorem dX3_removed_74 : decode cX3_removed 74 = .ok (.bipush 6, 2) := by decide +kernel
theorem dX3_removed_76 : decode cX3_removed 76 = .ok (.iadd, 1) := by decide +kernel
theorem dX3_removed_77 : decode cX3_removed 77 = .ok (.iload_n 3, 1) := by decide +kernel
theorem dX3_removed_78 : decode cX3_removed 78 = .ok (.iadd, 1) := by decide +kernel
theorem dX3_removed_79 : decode cX3_removed 79 = .ok (.iaload, 1) := by decide +kernel
theorem dX3_removed_80 : decode cX3_removed 80 = .ok (.iastore, 1) := by decide +kernel
theorem dX3_removed_81 : decode cX3_removed 81 = .ok (.iinc 3 1, 3) := by decide +kernel
theorem dX3_removed_84 : decode cX3_removed 84 = .ok (.goto (-34), 3) := by decide +kernel
theorem dX3_removed_87 : decode cX3_removed 87 = .ok (.iinc 2 1, 3) := by decide +kernel
theorem dX3_removed_90 : decode cX3_removed 90 = .ok (.goto (-78), 3) := by decide +kernel
theorem dX3_removed_93 : decode cX3_removed 93 = .ok (.return_, 1) := by decide +kernel
theorem dX3_tried_0 : decode cX3_tried 0 = .ok (.iconst 0, 1) := by decide +kernel
theorem dX3_tried_1 : decode cX3_tried 1 = .ok (.istore_n 1, 1) := by decide +kernel
theorem dX3_tried_2 : decode cX3_tried 2 = .ok (.iconst 0, 1) := by decide +kernel
theorem dX3_tried_3 : decode cX3_tried 3 = .ok (.istore_n 2, 1) := by decide +kernel
theorem dX3_tried_4 : decode cX3_tried 4 = .ok (.iload_n 2, 1) := by decide +kernel
theorem dX3_tried_5 : decode cX3_tried 5 = .ok (.aload_n 0, 1) := by decide +kernel
theorem dX3_tried_6 : decode cX3_tried 6 = .ok (.getfield 84, 3) := by decide +kernel
theorem dX3_tried_9 : decode cX3_tried 9 = .ok (.if_icmp .ge 86, 3) := by decide +kernel
theorem dX3_tried_12 : decode cX3_tried 12 = .ok (.aload_n 0, 1) := by decide +kernel
theorem dX3_tried_13 : decode cX3_tried 13 = .ok (.getfield 54, 3) := by decide +kernel
theorem dX3_tried_16 : decode cX3_tried 16 = .ok (.bipush 40, 2) := by decide +kernel
theorem dX3_tried_18 : decode cX3_tried 18 = .ok (.if_icmp .ge 77, 3) := by decide +kernel
theorem dX3_tried_21 : decode cX3_tried 21 = .ok (.aload_n 0, 1) := by decide +kernel
theorem dX3_tried_22 : decode cX3_tried 22 = .ok (.aload_n 0, 1) := by decide +kernel
theorem dX3_tried_23 : decode cX3_tried 23 = .ok (.getfield 41, 3) := by decide +kernel
theorem dX3_tried_26 : decode cX3_tried 26 = .ok (.iload_n 2, 1) := by decide +kernel
theorem dX3_tried_27 : decode cX3_tried 27 = .ok (.iaload, 1) := by decide +kernel
theorem dX3_tried_28 : decode cX3_tried 28 = .ok (.putfield 68, 3) := by decide +kernel
theorem dX3_tried_31 : decode cX3_tried 31 = .ok (.iconst 0, 1) := by decide +kernel
theorem dX3_tried_32 : decode cX3_tried 32 = .ok (.istore_n 3, 1) := by decide +kernel
theorem dX3_tried_33 : decode cX3_tried 33 = .ok (.iload_n 3, 1) := by decide +kernel
theorem dX3_tried_34 : decode cX3_tried 34 = .ok (.aload_n 0, 1) := by decide +kernel
theorem dX3_tried_35 : decode cX3_tried 35 = .ok (.getfield 68, 3) := by decide +kernel
theorem dX3_tried_38 : decode cX3_tried 38 = .ok (.if_icmp .ge 26, 3) := by decide +kernel
theorem dX3_tried_41 : decode cX3_tried 41 = .ok (.aload_n 0, 1) := by decide +kernel
theorem dX3_tried_42 : decode cX3_tried 42 = .ok (.getfield 44, 3) := by decide +kernel
theorem dX3_tried_45 : decode cX3_tried 45 = .ok (.iload_n 3, 1) := by decide +kernel
theorem dX3_tried_46 : decode cX3_tried 46 = .ok (.aload_n 0, 1) := by decide +kernel
theorem dX3_tried_47 : decode cX3_tried 47 = .ok (.getfield 38, 3) := by decide +kernel
theorem dX3_tried_50 : decode cX3_tried 50 = .ok (.bipush 6, 2) := by decide +kernel
theorem dX3_tried_52 : decode cX3_tried 52 = .ok (.iload_n 2, 1) := by decide +kernel
theorem dX3_tried_53 : decode cX3_tried 53 = .ok (.imul, 1) := by decide +kernel
theorem dX3_tried_54 : decode cX3_tried 54 = .ok (.iload_n 3, 1) := by decide +kernel
theorem dX3_tried_55 : decode cX3_tried 55 = .ok (.iadd, 1) := by decide +kernel
theorem dX3_tried_56 : decode cX3_tried 56 = .ok (.iaload, 1) := by decide +kernel
theorem dX3_tried_57 : decode cX3_tried 57 = .ok (.iastore, 1) := by decide +kernel
theorem dX3_tried_58 : decode cX3_tried 58 = .ok (.iinc 3 1, 3) := by decide +kernel
theorem dX3_tried_61 : decode cX3_tried 61 = .ok (.goto (-28), 3) := by decide +kernel
theorem dX3_tried_64 : decode cX3_tried 64 = .ok (.aload_n 0, 1) := by decide +kernel
theorem dX3_tried_65 : decode cX3_tried 65 = .ok (.aload_n 0, 1) := by decide +kernel
theorem dX3_tried_66 : decode cX3_tried 66 = .ok (.getfield 35, 3) := by decide +kernel
theorem dX3_tried_69 : decode cX3_tried 69 = .ok (.iload_n 2, 1) := by decide +kernel
theorem dX3_tried_70 : decode cX3_tried 70 = .ok (.iaload, 1) := by decide +kernel
theorem dX3_tried_71 : decode cX3_tried 71 = .ok (.iconst 2, 1) := by decide +kernel
theorem dX3_tried_72 : decode cX3_tried 72 = .ok (.invokevirtual 87, 3) := by decide +kernel
theorem dX3_tried_75 : decode cX3_tried 75 = .ok (.ifCond .lt 14, 3) := by decide +kernel
theorem dX3_tried_78 : decode cX3_tried 78 = .ok (.aload_n 0, 1) := by decide +kernel
theorem dX3_tried_79 : decode cX3_tried 79 = .ok (.iload_n 2, 1) := by decide +kernel
theorem dX3_tried_80 : decode cX3_tried 80 = .ok (.invokevirtual 90, 3) := by decide +kernel
theorem dX3_tried_83 : decode cX3_tried 83 = .ok (.iinc 1 1, 3) := by decide +kernel
theorem dX3_tried_86 : decode cX3_tried 86 = .ok (.goto (-82), 3) := by decide +kernel
theorem dX3_tried_89 : decode cX3_tried 89 = .ok (.iinc 2 1, 3) := by decide +kernel
theorem dX3_tried_92 : decode cX3_tried 92 = .ok (.goto (-88), 3) := by decide +kernel
theorem dX3_tried_95 : decode cX3_tried 95 = .ok (.iload_n 1, 1) := by decide +kernel
theorem dX3_tried_96 : decode cX3_tried 96 = .ok (.ireturn, 1) := by decide +kernel
theorem dX3_open_0 : decode cX3_open 0 = .ok (.aload_n 0, 1) := by decide +kernel
theorem dX3_open_1 : decode cX3_open 1 = .ok (.iconst 0, 1) := by decide +kernel
theorem dX3_open_2 : decode cX3_open 2 = .ok (.putfield 50, 3) := by decide +kernel
theorem dX3_open_5 : decode cX3_open 5 = .ok (.iload_n 1, 1) := by decide +kernel
theorem dX3_open_6 : decode cX3_open 6 = .ok (.iconst 0, 1) := by decide +kernel
theorem dX3_open_7 : decode cX3_open 7 = .ok (.bipush 9, 2) := by decide +kernel
theorem dX3_open_9 : decode cX3_open 9 = .ok (.invokestatic 93, 3) := by decide +kernel
theorem dX3_open_12 : decode cX3_open 12 = .ok (.ifCond .eq 13, 3) := by decide +kernel
theorem dX3_open_15 : decode cX3_open 15 = .ok (.iload_n 2, 1) := by decide +kernel
theorem dX3_open_16 : decode cX3_open 16 = .ok (.iconst 1, 1) := by decide +kernel
theorem dX3_open_17 : decode cX3_open 17 = .ok (.bipush 20, 2) := by decide +kernel
theorem dX3_open_19 : decode cX3_open 19 = .ok (.invokestatic 93, 3) := by decide +kernel
theorem dX3_open_22 : decode cX3_open 22 = .ok (.ifCond .ne 5, 3) := by decide +kernel
theorem dX3_open_25 : decode cX3_open 25 = .ok (.iconst (-1), 1) := by decide +kernel
theorem dX3_open_26 : decode cX3_open 26 = .ok (.ireturn, 1) := by decide +kernel
theorem dX3_open_27 : decode cX3_open 27 = .ok (.aload_n 0, 1) := by decide +kernel
theorem dX3_open_28 : decode cX3_open 28 = .ok (.getfield 7, 3) := by decide +kernel
theorem dX3_open_31 : decode cX3_open 31 = .ok (.iload_n 1, 1) := by decide +kernel
theorem dX3_open_32 : decode cX3_open 32 = .ok (.baload, 1) := by decide +kernel
theorem dX3_open_33 : decode cX3_open 33 = .ok (.ifCond .eq 6, 3) := by decide +kernel
theorem dX3_open_36 : decode cX3_open 36 = .ok (.bipush (-2), 2) := by decide +kernel
theorem dX3_open_38 : decode cX3_open 38 = .ok (.ireturn, 1) := by decide +kernel
theorem dX3_open_39 : decode cX3_open 39 = .ok (.aload_n 0, 1) := by decide +kernel
theorem dX3_open_40 : decode cX3_open 40 = .ok (.getfield 7, 3) := by decide +kernel
theorem dX3_open_43 : decode cX3_open 43 = .ok (.iload_n 1, 1) := by decide +kernel
theorem dX3_open_44 : decode cX3_open 44 = .ok (.iconst 1, 1) := by decide +kernel
theorem dX3_open_45 : decode cX3_open 45 = .ok (.bastore, 1) := by decide +kernel
theorem dX3_open_46 : decode cX3_open 46 = .ok (.aload_n 0, 1) := by decide +kernel
theorem dX3_open_47 : decode cX3_open 47 = .ok (.getfield 13, 3) := by decide +kernel
theorem dX3_open_50 : decode cX3_open 50 = .ok (.iload_n 1, 1) := by decide +kernel
theorem dX3_open_51 : decode cX3_open 51 = .ok (.iconst 0, 1) := by decide +kernel
theorem dX3_open_52 : decode cX3_open 52 = .ok (.bastore, 1) := by decide +kernel
theorem dX3_open_53 : decode cX3_open 53 = .ok (.aload_n 0, 1) := by decide +kernel
theorem dX3_open_54 : decode cX3_open 54 = .ok (.getfield 16, 3) := by decide +kernel
theorem dX3_open_57 : decode cX3_open 57 = .ok (.iload_n 1, 1) := by decide +kernel
theorem dX3_open_58 : decode cX3_open 58 = .ok (.iload_n 2, 1) := by decide +kernel
theorem dX3_open_59 : decode cX3_open 59 = .ok (.iastore, 1) := by decide +kernel
theorem dX3_open_60 : decode cX3_open 60 = .ok (.aload_n 0, 1) := by decide +kernel
theorem dX3_open_61 : decode cX3_open 61 = .ok (.getfield 20, 3) := by decide +kernel
theorem dX3_open_64 : decode cX3_open 64 = .ok (.iload_n 1, 1) := by decide +kernel
theorem dX3_open_65 : decode cX3_open 65 = .ok (.iconst 0, 1) := by decide +kernel
theorem dX3_open_66 : decode cX3_open 66 = .ok (.iastore, 1) := by decide +kernel
theorem dX3_open_67 : decode cX3_open 67 = .ok (.aload_n 0, 1) := by decide +kernel
theorem dX3_open_68 : decode cX3_open 68 = .ok (.getfield 23, 3) := by decide +kernel
theorem dX3_open_71 : decode cX3_open 71 = .ok (.iload_n 1, 1) := by decide +kernel
theorem dX3_open_72 : decode cX3_open 72 = .ok (.iconst 0, 1) := by decide +kernel
theorem dX3_open_73 : decode cX3_open 73 = .ok (.iastore, 1) := by decide +kernel
theorem dX3_open_74 : decode cX3_open 74 = .ok (.iconst 0, 1) := by decide +kernel
theorem dX3_open_75 : decode cX3_open 75 = .ok (.istore_n 3, 1) := by decide +kernel
theorem dX3_open_76 : decode cX3_open 76 = .ok (.iload_n 3, 1) := by decide +kernel
theorem dX3_open_77 : decode cX3_open 77 = .ok (.bipush 20, 2) := by decide +kernel
theorem dX3_open_79 : decode cX3_open 79 = .ok (.if_icmp .ge 22, 3) := by decide +kernel
theorem dX3_open_82 : decode cX3_open 82 = .ok (.aload_n 0, 1) := by decide +kernel
theorem dX3_open_83 : decode cX3_open 83 = .ok (.getfield 26, 3) := by decide +kernel
theorem dX3_open_86 : decode cX3_open 86 = .ok (.bipush 20, 2) := by decide +kernel
theorem dX3_open_88 : decode cX3_open 88 = .ok (.iload_n 1, 1) := by decide +kernel
theorem dX3_open_89 : decode cX3_open 89 = .ok (.imul, 1) := by decide +kernel
theorem dX3_open_90 : decode cX3_open 90 = .ok (.iload_n 3, 1) := by decide +kernel
theorem dX3_open_91 : decode cX3_open 91 = .ok (.iadd, 1) := by decide +kernel
theorem dX3_open_92 : decode cX3_open 92 = .ok (.bipush (-8), 2) := by decide +kernel
theorem dX3_open_94 : decode cX3_open 94 = .ok (.iastore, 1) := by decide +kernel
theorem dX3_open_95 : decode cX3_open 95 = .ok (.iinc 3 1, 3) := by decide +kernel
theorem dX3_open_98 : decode cX3_open 98 = .ok (.goto (-22), 3) := by decide +kernel
theorem dX3_open_101 : decode cX3_open 101 = .ok (.aload_n 0, 1) := by decide +kernel
theorem dX3_open_102 : decode cX3_open 102 = .ok (.invokevirtual 97, 3) := by decide +kernel
theorem dX3_open_105 : decode cX3_open 105 = .ok (.ireturn, 1) := by decide +kernel
theorem dX3_free_0 : decode cX3_free 0 = .ok (.iconst 0, 1) := by decide +kernel
theorem dX3_free_1 : decode cX3_free 1 = .ok (.istore_n 2, 1) := by decide +kernel
theorem dX3_free_2 : decode cX3_free 2 = .ok (.iconst 0, 1) := by decide +kernel
theorem dX3_free_3 : decode cX3_free 3 = .ok (.istore_n 3, 1) := by decide +kernel
theorem dX3_free_4 : decode cX3_free 4 = .ok (.iload_n 3, 1) := by decide +kernel
theorem dX3_free_5 : decode cX3_free 5 = .ok (.aload_n 0, 1) := by decide +kernel
theorem dX3_free_6 : decode cX3_free 6 = .ok (.getfield 16, 3) := by decide +kernel
theorem dX3_free_9 : decode cX3_free 9 = .ok (.iload_n 1, 1) := by decide +kernel
theorem dX3_free_10 : decode cX3_free 10 = .ok (.iaload, 1) := by decide +kernel
theorem dX3_free_11 : decode cX3_free 11 = .ok (.if_icmp .ge 33, 3) := by decide +kernel
theorem dX3_free_14 : decode cX3_free 14 = .ok (.iload_n 2, 1) := by decide +kernel
theorem dX3_free_15 : decode cX3_free 15 = .ok (.aload_n 0, 1) := by decide +kernel
theorem dX3_free_16 : decode cX3_free 16 = .ok (.getfield 26, 3) := by decide +kernel
theorem dX3_free_19 : decode cX3_free 19 = .ok (.bipush 20, 2) := by decide +kernel
theorem dX3_free_21 : decode cX3_free 21 = .ok (.iload_n 1, 1) := by decide +kernel
theorem dX3_free_22 : decode cX3_free 22 = .ok (.imul, 1) := by decide +kernel
theorem dX3_free_23 : decode cX3_free 23 = .ok (.iload_n 3, 1) := by decide +kernel
theorem dX3_free_24 : decode cX3_free 24 = .ok (.iadd, 1) := by decide +kernel
theorem dX3_free_25 : decode cX3_free 25 = .ok (.iaload, 1) := by decide +kernel
theorem dX3_free_26 : decode cX3_free 26 = .ok (.bipush (-8), 2) := by decide +kernel
theorem dX3_free_28 : decode cX3_free 28 = .ok (.if_icmp .ne 7, 3) := by decide +kernel
theorem dX3_free_31 : decode cX3_free 31 = .ok (.iconst 1, 1) := by decide +kernel
theorem dX3_free_32 : decode cX3_free 32 = .ok (.goto 4, 3) := by decide +kernel
theorem dX3_free_35 : decode cX3_free 35 = .ok (.iconst 0, 1) := by decide +kernel
theorem dX3_free_36 : decode cX3_free 36 = .ok (.iadd, 1) := by decide +kernel
theorem dX3_free_37 : decode cX3_free 37 = .ok (.istore_n 2, 1) := by decide +kernel
theorem dX3_free_38 : decode cX3_free 38 = .ok (.iinc 3 1, 3) := by decide +kernel
theorem dX3_free_41 : decode cX3_free 41 = .ok (.goto (-37), 3) := by decide +kernel
theorem dX3_free_44 : decode cX3_free 44 = .ok (.iload_n 2, 1) := by decide +kernel
theorem dX3_free_45 : decode cX3_free 45 = .ok (.ireturn, 1) := by decide +kernel
theorem dX3_shut_0 : decode cX3_shut 0 = .ok (.aload_n 0, 1) := by decide +kernel
theorem dX3_shut_1 : decode cX3_shut 1 = .ok (.iconst 0, 1) := by decide +kernel
theorem dX3_shut_2 : decode cX3_shut 2 = .ok (.putfield 50, 3) := by decide +kernel
theorem dX3_shut_5 : decode cX3_shut 5 = .ok (.iload_n 1, 1) := by decide +kernel
theorem dX3_shut_6 : decode cX3_shut 6 = .ok (.iconst 0, 1) := by decide +kernel
theorem dX3_shut_7 : decode cX3_shut 7 = .ok (.bipush 9, 2) := by decide +kernel
theorem dX3_shut_9 : decode cX3_shut 9 = .ok (.invokestatic 93, 3) := by decide +kernel
theorem dX3_shut_12 : decode cX3_shut 12 = .ok (.ifCond .ne 5, 3) := by decide +kernel
theorem dX3_shut_15 : decode cX3_shut 15 = .ok (.iconst (-1), 1) := by decide +kernel
theorem dX3_shut_16 : decode cX3_shut 16 = .ok (.ireturn, 1) := by decide +kernel
theorem dX3_shut_17 : decode cX3_shut 17 = .ok (.aload_n 0, 1) := by decide +kernel
theorem dX3_shut_18 : decode cX3_shut 18 = .ok (.getfield 7, 3) := by decide +kernel
theorem dX3_shut_21 : decode cX3_shut 21 = .ok (.iload_n 1, 1) := by decide +kernel
theorem dX3_shut_22 : decode cX3_shut 22 = .ok (.baload, 1) := by decide +kernel
theorem dX3_shut_23 : decode cX3_shut 23 = .ok (.ifCond .eq 17, 3) := by decide +kernel
theorem dX3_shut_26 : decode cX3_shut 26 = .ok (.aload_n 0, 1) := by decide +kernel
theorem dX3_shut_27 : decode cX3_shut 27 = .ok (.iload_n 1, 1) := by decide +kernel
theorem dX3_shut_28 : decode cX3_shut 28 = .ok (.invokevirtual 101, 3) := by decide +kernel
theorem dX3_shut_31 : decode cX3_shut 31 = .ok (.aload_n 0, 1) := by decide +kernel
theorem dX3_shut_32 : decode cX3_shut 32 = .ok (.getfield 16, 3) := by decide +kernel
theorem dX3_shut_35 : decode cX3_shut 35 = .ok (.iload_n 1, 1) := by decide +kernel
theorem dX3_shut_36 : decode cX3_shut 36 = .ok (.iaload, 1) := by decide +kernel
theorem dX3_shut_37 : decode cX3_shut 37 = .ok (.if_icmp .ge 6, 3) := by decide +kernel
theorem dX3_shut_40 : decode cX3_shut 40 = .ok (.bipush (-2), 2) := by decide +kernel
theorem dX3_shut_42 : decode cX3_shut 42 = .ok (.ireturn, 1) := by decide +kernel
theorem dX3_shut_43 : decode cX3_shut 43 = .ok (.aload_n 0, 1) := by decide +kernel
theorem dX3_shut_44 : decode cX3_shut 44 = .ok (.getfield 7, 3) := by decide +kernel
theorem dX3_shut_47 : decode cX3_shut 47 = .ok (.iload_n 1, 1) := by decide +kernel
theorem dX3_shut_48 : decode cX3_shut 48 = .ok (.iconst 0, 1) := by decide +kernel
theorem dX3_shut_49 : decode cX3_shut 49 = .ok (.bastore, 1) := by decide +kernel
theorem dX3_shut_50 : decode cX3_shut 50 = .ok (.aload_n 0, 1) := by decide +kernel
theorem dX3_shut_51 : decode cX3_shut 51 = .ok (.getfield 16, 3) := by decide +kernel
theorem dX3_shut_54 : decode cX3_shut 54 = .ok (.iload_n 1, 1) := by decide +kernel
theorem dX3_shut_55 : decode cX3_shut 55 = .ok (.iaload, 1) := by decide +kernel
theorem dX3_shut_56 : decode cX3_shut 56 = .ok (.ireturn, 1) := by decide +kernel
theorem dX3_strict_0 : decode cX3_strict 0 = .ok (.aload_n 0, 1) := by decide +kernel
theorem dX3_strict_1 : decode cX3_strict 1 = .ok (.iconst 0, 1) := by decide +kernel
theorem dX3_strict_2 : decode cX3_strict 2 = .ok (.putfield 50, 3) := by decide +kernel
theorem dX3_strict_5 : decode cX3_strict 5 = .ok (.iload_n 1, 1) := by decide +kernel
theorem dX3_strict_6 : decode cX3_strict 6 = .ok (.iconst 0, 1) := by decide +kernel
theorem dX3_strict_7 : decode cX3_strict 7 = .ok (.bipush 9, 2) := by decide +kernel
theorem dX3_strict_9 : decode cX3_strict 9 = .ok (.invokestatic 93, 3) := by decide +kernel
theorem dX3_strict_12 : decode cX3_strict 12 = .ok (.ifCond .ne 5, 3) := by decide +kernel
theorem dX3_strict_15 : decode cX3_strict 15 = .ok (.iconst (-1), 1) := by decide +kernel
theorem dX3_strict_16 : decode cX3_strict 16 = .ok (.ireturn, 1) := by decide +kernel
theorem dX3_strict_17 : decode cX3_strict 17 = .ok (.aload_n 0, 1) := by decide +kernel
theorem dX3_strict_18 : decode cX3_strict 18 = .ok (.getfield 7, 3) := by decide +kernel
theorem dX3_strict_21 : decode cX3_strict 21 = .ok (.iload_n 1, 1) := by decide +kernel
theorem dX3_strict_22 : decode cX3_strict 22 = .ok (.baload, 1) := by decide +kernel
theorem dX3_strict_23 : decode cX3_strict 23 = .ok (.ifCond .ne 6, 3) := by decide +kernel
theorem dX3_strict_26 : decode cX3_strict 26 = .ok (.bipush (-2), 2) := by decide +kernel
theorem dX3_strict_28 : decode cX3_strict 28 = .ok (.ireturn, 1) := by decide +kernel
theorem dX3_strict_29 : decode cX3_strict 29 = .ok (.aload_n 0, 1) := by decide +kernel
theorem dX3_strict_30 : decode cX3_strict 30 = .ok (.getfield 13, 3) := by decide +kernel
theorem dX3_strict_33 : decode cX3_strict 33 = .ok (.iload_n 1, 1) := by decide +kernel
theorem dX3_strict_34 : decode cX3_strict 34 = .ok (.baload, 1) := by decide +kernel
theorem dX3_strict_35 : decode cX3_strict 35 = .ok (.ifCond .eq 7, 3) := by decide +kernel
theorem dX3_strict_38 : decode cX3_strict 38 = .ok (.iconst 1, 1) := by decide +kernel
theorem dX3_strict_39 : decode cX3_strict 39 = .ok (.goto 4, 3) := by decide +kernel
theorem dX3_strict_42 : decode cX3_strict 42 = .ok (.iconst 0, 1) := by decide +kernel
theorem dX3_strict_43 : decode cX3_strict 43 = .ok (.istore_n 3, 1) := by decide +kernel
theorem dX3_strict_44 : decode cX3_strict 44 = .ok (.aload_n 0, 1) := by decide +kernel
theorem dX3_strict_45 : decode cX3_strict 45 = .ok (.getfield 13, 3) := by decide +kernel
theorem dX3_strict_48 : decode cX3_strict 48 = .ok (.iload_n 1, 1) := by decide +kernel
theorem dX3_strict_49 : decode cX3_strict 49 = .ok (.iload_n 2, 1) := by decide +kernel
theorem dX3_strict_50 : decode cX3_strict 50 = .ok (.bastore, 1) := by decide +kernel
theorem dX3_strict_51 : decode cX3_strict 51 = .ok (.iload_n 3, 1) := by decide +kernel
theorem dX3_strict_52 : decode cX3_strict 52 = .ok (.ireturn, 1) := by decide +kernel
theorem dX3_list_0 : decode cX3_list 0 = .ok (.aload_n 0, 1) := by decide +kernel
theorem dX3_list_1 : decode cX3_list 1 = .ok (.iconst 0, 1) := by decide +kernel
theorem dX3_list_2 : decode cX3_list 2 = .ok (.putfield 50, 3) := by decide +kernel
theorem dX3_list_5 : decode cX3_list 5 = .ok (.iload_n 1, 1) := by decide +kernel
theorem dX3_list_6 : decode cX3_list 6 = .ok (.iconst 0, 1) := by decide +kernel
theorem dX3_list_7 : decode cX3_list 7 = .ok (.bipush 11, 2) := by decide +kernel
theorem dX3_list_9 : decode cX3_list 9 = .ok (.invokestatic 93, 3) := by decide +kernel
theorem dX3_list_12 : decode cX3_list 12 = .ok (.ifCond .ne 5, 3) := by decide +kernel
theorem dX3_list_15 : decode cX3_list 15 = .ok (.iconst (-1), 1) := by decide +kernel
theorem dX3_list_16 : decode cX3_list 16 = .ok (.ireturn, 1) := by decide +kernel
theorem dX3_list_17 : decode cX3_list 17 = .ok (.aload_n 0, 1) := by decide +kernel
theorem dX3_list_18 : decode cX3_list 18 = .ok (.getfield 105, 3) := by decide +kernel
theorem dX3_list_21 : decode cX3_list 21 = .ok (.bipush 6, 2) := by decide +kernel
theorem dX3_list_23 : decode cX3_list 23 = .ok (.if_icmp .ne 6, 3) := by decide +kernel
theorem dX3_list_26 : decode cX3_list 26 = .ok (.bipush (-3), 2) := by decide +kernel
theorem dX3_list_28 : decode cX3_list 28 = .ok (.ireturn, 1) := by decide +kernel
theorem dX3_list_29 : decode cX3_list 29 = .ok (.aload_n 0, 1) := by decide +kernel
theorem dX3_list_30 : decode cX3_list 30 = .ok (.getfield 29, 3) := by decide +kernel
theorem dX3_list_33 : decode cX3_list 33 = .ok (.aload_n 0, 1) := by decide +kernel
theorem dX3_list_34 : decode cX3_list 34 = .ok (.getfield 105, 3) := by decide +kernel
theorem dX3_list_37 : decode cX3_list 37 = .ok (.iload_n 1, 1) := by decide +kernel
theorem dX3_list_38 : decode cX3_list 38 = .ok (.iastore, 1) := by decide +kernel
theorem dX3_list_39 : decode cX3_list 39 = .ok (.aload_n 0, 1) := by decide +kernel
theorem dX3_list_40 : decode cX3_list 40 = .ok (.dup, 1) := by decide +kernel
theorem dX3_list_41 : decode cX3_list 41 = .ok (.getfield 105, 3) := by decide +kernel
theorem dX3_list_44 : decode cX3_list 44 = .ok (.iconst 1, 1) := by decide +kernel
theorem dX3_list_45 : decode cX3_list 45 = .ok (.iadd, 1) := by decide +kernel
theorem dX3_list_46 : decode cX3_list 46 = .ok (.putfield 105, 3) := by decide +kernel
theorem dX3_list_49 : decode cX3_list 49 = .ok (.aload_n 0, 1) := by decide +kernel
theorem dX3_list_50 : decode cX3_list 50 = .ok (.getfield 105, 3) := by decide +kernel
theorem dX3_list_53 : decode cX3_list 53 = .ok (.ireturn, 1) := by decide +kernel
theorem dX3_book_0 : decode cX3_book 0 = .ok (.aload_n 0, 1) := by decide +kernel
theorem dX3_book_1 : decode cX3_book 1 = .ok (.iconst 0, 1) := by decide +kernel
theorem dX3_book_2 : decode cX3_book 2 = .ok (.putfield 50, 3) := by decide +kernel
theorem dX3_book_5 : decode cX3_book 5 = .ok (.iload_n 1, 1) := by decide +kernel
theorem dX3_book_6 : decode cX3_book 6 = .ok (.iconst 1, 1) := by decide +kernel
theorem dX3_book_7 : decode cX3_book 7 = .ok (.bipush 60, 2) := by decide +kernel
theorem dX3_book_9 : decode cX3_book 9 = .ok (.invokestatic 93, 3) := by decide +kernel
theorem dX3_book_12 : decode cX3_book 12 = .ok (.ifCond .eq 12, 3) := by decide +kernel
theorem dX3_book_15 : decode cX3_book 15 = .ok (.iload_n 2, 1) := by decide +kernel
theorem dX3_book_16 : decode cX3_book 16 = .ok (.iconst 0, 1) := by decide +kernel
theorem dX3_book_17 : decode cX3_book 17 = .ok (.iconst 2, 1) := by decide +kernel
theorem dX3_book_18 : decode cX3_book 18 = .ok (.invokestatic 93, 3) := by decide +kernel
theorem dX3_book_21 : decode cX3_book 21 = .ok (.ifCond .ne 5, 3) := by decide +kernel
theorem dX3_book_24 : decode cX3_book 24 = .ok (.iconst (-1), 1) := by decide +kernel
theorem dX3_book_25 : decode cX3_book 25 = .ok (.ireturn, 1) := by decide +kernel
theorem dX3_book_26 : decode cX3_book 26 = .ok (.aload_n 0, 1) := by decide +kernel
theorem dX3_book_27 : decode cX3_book 27 = .ok (.getfield 105, 3) := by decide +kernel
theorem dX3_book_30 : decode cX3_book 30 = .ok (.ifCond .ne 6, 3) := by decide +kernel
theorem dX3_book_33 : decode cX3_book 33 = .ok (.bipush (-2), 2) := by decide +kernel
theorem dX3_book_35 : decode cX3_book 35 = .ok (.ireturn, 1) := by decide +kernel
theorem dX3_book_36 : decode cX3_book 36 = .ok (.aload_n 0, 1) := by decide +kernel
theorem dX3_book_37 : decode cX3_book 37 = .ok (.getfield 54, 3) := by decide +kernel
theorem dX3_book_40 : decode cX3_book 40 = .ok (.bipush 40, 2) := by decide +kernel
theorem dX3_book_42 : decode cX3_book 42 = .ok (.if_icmp .ne 6, 3) := by decide +kernel
theorem dX3_book_45 : decode cX3_book 45 = .ok (.bipush (-3), 2) := by decide +kernel
theorem dX3_book_47 : decode cX3_book 47 = .ok (.ireturn, 1) := by decide +kernel
theorem dX3_book_48 : decode cX3_book 48 = .ok (.aload_n 0, 1) := by decide +kernel
theorem dX3_book_49 : decode cX3_book 49 = .ok (.aload_n 0, 1) := by decide +kernel
theorem dX3_book_50 : decode cX3_book 50 = .ok (.getfield 105, 3) := by decide +kernel
theorem dX3_book_53 : decode cX3_book 53 = .ok (.putfield 68, 3) := by decide +kernel
theorem dX3_book_56 : decode cX3_book 56 = .ok (.iconst 0, 1) := by decide +kernel
theorem dX3_book_57 : decode cX3_book 57 = .ok (.istore_n 3, 1) := by decide +kernel
theorem dX3_book_58 : decode cX3_book 58 = .ok (.iload_n 3, 1) := by decide +kernel
theorem dX3_book_59 : decode cX3_book 59 = .ok (.aload_n 0, 1) := by decide +kernel
theorem dX3_book_60 : decode cX3_book 60 = .ok (.getfield 105, 3) := by decide +kernel
theorem dX3_book_63 : decode cX3_book 63 = .ok (.if_icmp .ge 21, 3) := by decide +kernel
theorem dX3_book_66 : decode cX3_book 66 = .ok (.aload_n 0, 1) := by decide +kernel
theorem dX3_book_67 : decode cX3_book 67 = .ok (.getfield 44, 3) := by decide +kernel
theorem dX3_book_70 : decode cX3_book 70 = .ok (.iload_n 3, 1) := by decide +kernel
theorem dX3_book_71 : decode cX3_book 71 = .ok (.aload_n 0, 1) := by decide +kernel
theorem dX3_book_72 : decode cX3_book 72 = .ok (.getfield 29, 3) := by decide +kernel
theorem dX3_book_75 : decode cX3_book 75 = .ok (.iload_n 3, 1) := by decide +kernel
theorem dX3_book_76 : decode cX3_book 76 = .ok (.iaload, 1) := by decide +kernel
theorem dX3_book_77 : decode cX3_book 77 = .ok (.iastore, 1) := by decide +kernel
theorem dX3_book_78 : decode cX3_book 78 = .ok (.iinc 3 1, 3) := by decide +kernel
theorem dX3_book_81 : decode cX3_book 81 = .ok (.goto (-23), 3) := by decide +kernel
theorem dX3_book_84 : decode cX3_book 84 = .ok (.aload_n 0, 1) := by decide +kernel
theorem dX3_book_85 : decode cX3_book 85 = .ok (.iconst 0, 1) := by decide +kernel
theorem dX3_book_86 : decode cX3_book 86 = .ok (.putfield 105, 3) := by decide +kernel
theorem dX3_book_89 : decode cX3_book 89 = .ok (.aload_n 0, 1) := by decide +kernel
theorem dX3_book_90 : decode cX3_book 90 = .ok (.iload_n 1, 1) := by decide +kernel
theorem dX3_book_91 : decode cX3_book 91 = .ok (.iload_n 2, 1) := by decide +kernel
theorem dX3_book_92 : decode cX3_book 92 = .ok (.invokevirtual 87, 3) := by decide +kernel
theorem dX3_book_95 : decode cX3_book 95 = .ok (.istore_n 3, 1) := by decide +kernel
theorem dX3_book_96 : decode cX3_book 96 = .ok (.iload_n 3, 1) := by decide +kernel
theorem dX3_book_97 : decode cX3_book 97 = .ok (.bipush (-4), 2) := by decide +kernel
theorem dX3_book_99 : decode cX3_book 99 = .ok (.if_icmp .ne 17, 3) := by decide +kernel
theorem dX3_book_102 : decode cX3_book 102 = .ok (.iload_n 2, 1) := by decide +kernel
theorem dX3_book_103 : decode cX3_book 103 = .ok (.iconst 2, 1) := by decide +kernel
theorem dX3_book_104 : decode cX3_book 104 = .ok (.if_icmp .ne 12, 3) := by decide +kernel
theorem dX3_book_107 : decode cX3_book 107 = .ok (.aload_n 0, 1) := by decide +kernel
theorem dX3_book_108 : decode cX3_book 108 = .ok (.getfield 84, 3) := by decide +kernel
theorem dX3_book_111 : decode cX3_book 111 = .ok (.bipush 8, 2) := by decide +kernel
theorem dX3_book_113 : decode cX3_book 113 = .ok (.if_icmp .ne 5, 3) := by decide +kernel
theorem dX3_book_116 : decode cX3_book 116 = .ok (.iload_n 3, 1) := by decide +kernel
theorem dX3_book_117 : decode cX3_book 117 = .ok (.ireturn, 1) := by decide +kernel
theorem dX3_book_118 : decode cX3_book 118 = .ok (.aload_n 0, 1) := by decide +kernel
theorem dX3_book_119 : decode cX3_book 119 = .ok (.getfield 35, 3) := by decide +kernel
theorem dX3_book_122 : decode cX3_book 122 = .ok (.aload_n 0, 1) := by decide +kernel
theorem dX3_book_123 : decode cX3_book 123 = .ok (.getfield 84, 3) := by decide +kernel
theorem dX3_book_126 : decode cX3_book 126 = .ok (.iload_n 1, 1) := by decide +kernel
theorem dX3_book_127 : decode cX3_book 127 = .ok (.iastore, 1) := by decide +kernel
theorem dX3_book_128 : decode cX3_book 128 = .ok (.aload_n 0, 1) := by decide +kernel
theorem dX3_book_129 : decode cX3_book 129 = .ok (.getfield 41, 3) := by decide +kernel
theorem dX3_book_132 : decode cX3_book 132 = .ok (.aload_n 0, 1) := by decide +kernel
theorem dX3_book_133 : decode cX3_book 133 = .ok (.getfield 84, 3) := by decide +kernel
theorem dX3_book_136 : decode cX3_book 136 = .ok (.aload_n 0, 1) := by decide +kernel
theorem dX3_book_137 : decode cX3_book 137 = .ok (.getfield 68, 3) := by decide +kernel
theorem dX3_book_140 : decode cX3_book 140 = .ok (.iastore, 1) := by decide +kernel
theorem dX3_book_141 : decode cX3_book 141 = .ok (.iconst 0, 1) := by decide +kernel
theorem dX3_book_142 : decode cX3_book 142 = .ok (.istore 4, 2) := by decide +kernel
theorem dX3_book_144 : decode cX3_book 144 = .ok (.iload 4, 2) := by decide +kernel
theorem dX3_book_146 : decode cX3_book 146 = .ok (.aload_n 0, 1) := by decide +kernel
theorem dX3_book_147 : decode cX3_book 147 = .ok (.getfield 68, 3) := by decide +kernel
theorem dX3_book_150 : decode cX3_book 150 = .ok (.if_icmp .ge 31, 3) := by decide +kernel
theorem dX3_book_153 : decode cX3_book 153 = .ok (.aload_n 0, 1) := by decide +kernel
theorem dX3_book_154 : decode cX3_book 154 = .ok (.getfield 38, 3) := by decide +kernel
theorem dX3_book_157 : decode cX3_book 157 = .ok (.bipush 6, 2) := by decide +kernel
theorem dX3_book_159 : decode cX3_book 159 = .ok (.aload_n 0, 1) := by decide +kernel
theorem dX3_book_160 : decode cX3_book 160 = .ok (.getfield 84, 3) := by decide +kernel
theorem dX3_book_163 : decode cX3_book 163 = .ok (.imul, 1) := by decide +kernel
theorem dX3_book_164 : decode cX3_book 164 = .ok (.iload 4, 2) := by decide +kernel
theorem dX3_book_166 : decode cX3_book 166 = .ok (.iadd, 1) := by decide +kernel
theorem dX3_book_167 : decode cX3_book 167 = .ok (.aload_n 0, 1) := by decide +kernel
theorem dX3_book_168 : decode cX3_book 168 = .ok (.getfield 44, 3) := by decide +kernel
theorem dX3_book_171 : decode cX3_book 171 = .ok (.iload 4, 2) := by decide +kernel
theorem dX3_book_173 : decode cX3_book 173 = .ok (.iaload, 1) := by decide +kernel
theorem dX3_book_174 : decode cX3_book 174 = .ok (.iastore, 1) := by decide +kernel
theorem dX3_book_175 : decode cX3_book 175 = .ok (.iinc 4 1, 3) := by decide +kernel
theorem dX3_book_178 : decode cX3_book 178 = .ok (.goto (-34), 3) := by decide +kernel
theorem dX3_book_181 : decode cX3_book 181 = .ok (.aload_n 0, 1) := by decide +kernel
theorem dX3_book_182 : decode cX3_book 182 = .ok (.dup, 1) := by decide +kernel
theorem dX3_book_183 : decode cX3_book 183 = .ok (.getfield 84, 3) := by decide +kernel
theorem dX3_book_186 : decode cX3_book 186 = .ok (.iconst 1, 1) := by decide +kernel
theorem dX3_book_187 : decode cX3_book 187 = .ok (.iadd, 1) := by decide +kernel
theorem dX3_book_188 : decode cX3_book 188 = .ok (.putfield 84, 3) := by decide +kernel
theorem dX3_book_191 : decode cX3_book 191 = .ok (.bipush (-7), 2) := by decide +kernel
theorem dX3_book_193 : decode cX3_book 193 = .ok (.ireturn, 1) := by decide +kernel
theorem dX3_cancel_0 : decode cX3_cancel 0 = .ok (.aload_n 0, 1) := by decide +kernel
theorem dX3_cancel_1 : decode cX3_cancel 1 = .ok (.iconst 0, 1) := by decide +kernel
theorem dX3_cancel_2 : decode cX3_cancel 2 = .ok (.putfield 50, 3) := by decide +kernel
theorem dX3_cancel_5 : decode cX3_cancel 5 = .ok (.iload_n 1, 1) := by decide +kernel
theorem dX3_cancel_6 : decode cX3_cancel 6 = .ok (.iconst 0, 1) := by decide +kernel
theorem dX3_cancel_7 : decode cX3_cancel 7 = .ok (.aload_n 0, 1) := by decide +kernel
theorem dX3_cancel_8 : decode cX3_cancel 8 = .ok (.getfield 54, 3) := by decide +kernel
theorem dX3_cancel_11 : decode cX3_cancel 11 = .ok (.iconst 1, 1) := by decide +kernel
theorem dX3_cancel_12 : decode cX3_cancel 12 = .ok (.isub, 1) := by decide +kernel
theorem dX3_cancel_13 : decode cX3_cancel 13 = .ok (.invokestatic 93, 3) := by decide +kernel
theorem dX3_cancel_16 : decode cX3_cancel 16 = .ok (.ifCond .ne 5, 3) := by decide +kernel
theorem dX3_cancel_19 : decode cX3_cancel 19 = .ok (.iconst (-1), 1) := by decide +kernel
theorem dX3_cancel_20 : decode cX3_cancel 20 = .ok (.ireturn, 1) := by decide +kernel
theorem dX3_cancel_21 : decode cX3_cancel 21 = .ok (.aload_n 0, 1) := by decide +kernel
theorem dX3_cancel_22 : decode cX3_cancel 22 = .ok (.getfield 32, 3) := by decide +kernel
theorem dX3_cancel_25 : decode cX3_cancel 25 = .ok (.iload_n 1, 1) := by decide +kernel
theorem dX3_cancel_26 : decode cX3_cancel 26 = .ok (.baload, 1) := by decide +kernel
theorem dX3_cancel_27 : decode cX3_cancel 27 = .ok (.ifCond .eq 6, 3) := by decide +kernel
theorem dX3_cancel_30 : decode cX3_cancel 30 = .ok (.bipush (-2), 2) := by decide +kernel
theorem dX3_cancel_32 : decode cX3_cancel 32 = .ok (.ireturn, 1) := by decide +kernel
theorem dX3_cancel_33 : decode cX3_cancel 33 = .ok (.aload_n 0, 1) := by decide +kernel
theorem dX3_cancel_34 : decode cX3_cancel 34 = .ok (.getfield 32, 3) := by decide +kernel
theorem dX3_cancel_37 : decode cX3_cancel 37 = .ok (.iload_n 1, 1) := by decide +kernel
theorem dX3_cancel_38 : decode cX3_cancel 38 = .ok (.iconst 1, 1) := by decide +kernel
theorem dX3_cancel_39 : decode cX3_cancel 39 = .ok (.bastore, 1) := by decide +kernel
theorem dX3_cancel_40 : decode cX3_cancel 40 = .ok (.iconst 0, 1) := by decide +kernel
theorem dX3_cancel_41 : decode cX3_cancel 41 = .ok (.istore_n 2, 1) := by decide +kernel
theorem dX3_cancel_42 : decode cX3_cancel 42 = .ok (.iload_n 2, 1) := by decide +kernel
theorem dX3_cancel_43 : decode cX3_cancel 43 = .ok (.sipush 200, 3) := by decide +kernel
theorem dX3_cancel_46 : decode cX3_cancel 46 = .ok (.if_icmp .ge 36, 3) := by decide +kernel
theorem dX3_cancel_49 : decode cX3_cancel 49 = .ok (.aload_n 0, 1) := by decide +kernel
theorem dX3_cancel_50 : decode cX3_cancel 50 = .ok (.getfield 26, 3) := by decide +kernel
theorem dX3_cancel_53 : decode cX3_cancel 53 = .ok (.iload_n 2, 1) := by decide +kernel
theorem dX3_cancel_54 : decode cX3_cancel 54 = .ok (.aload_n 0, 1) := by decide +kernel
theorem dX3_cancel_55 : decode cX3_cancel 55 = .ok (.getfield 26, 3) := by decide +kernel
theorem dX3_cancel_58 : decode cX3_cancel 58 = .ok (.iload_n 2, 1) := by decide +kernel
theorem dX3_cancel_59 : decode cX3_cancel 59 = .ok (.iaload, 1) := by decide +kernel
theorem dX3_cancel_60 : decode cX3_cancel 60 = .ok (.iload_n 1, 1) := by decide +kernel
theorem dX3_cancel_61 : decode cX3_cancel 61 = .ok (.if_icmp .ne 8, 3) := by decide +kernel
theorem dX3_cancel_64 : decode cX3_cancel 64 = .ok (.bipush (-8), 2) := by decide +kernel
theorem dX3_cancel_66 : decode cX3_cancel 66 = .ok (.goto 9, 3) := by decide +kernel
theorem dX3_cancel_69 : decode cX3_cancel 69 = .ok (.aload_n 0, 1) := by decide +kernel
theorem dX3_cancel_70 : decode cX3_cancel 70 = .ok (.getfield 26, 3) := by decide +kernel
theorem dX3_cancel_73 : decode cX3_cancel 73 = .ok (.iload_n 2, 1) := by decide +kernel
theorem dX3_cancel_74 : decode cX3_cancel 74 = .ok (.iaload, 1) := by decide +kernel
theorem dX3_cancel_75 : decode cX3_cancel 75 = .ok (.iastore, 1) := by decide +kernel
theorem dX3_cancel_76 : decode cX3_cancel 76 = .ok (.iinc 2 1, 3) := by decide +kernel
theorem dX3_cancel_79 : decode cX3_cancel 79 = .ok (.goto (-37), 3) := by decide +kernel
theorem dX3_cancel_82 : decode cX3_cancel 82 = .ok (.aload_n 0, 1) := by decide +kernel
theorem dX3_cancel_83 : decode cX3_cancel 83 = .ok (.invokevirtual 97, 3) := by decide +kernel
theorem dX3_cancel_86 : decode cX3_cancel 86 = .ok (.ireturn, 1) := by decide +kernel
theorem dX3_leave_0 : decode cX3_leave 0 = .ok (.aload_n 0, 1) := by decide +kernel
theorem dX3_leave_1 : decode cX3_leave 1 = .ok (.iconst 0, 1) := by decide +kernel
theorem dX3_leave_2 : decode cX3_leave 2 = .ok (.putfield 50, 3) := by decide +kernel
theorem dX3_leave_5 : decode cX3_leave 5 = .ok (.iload_n 1, 1) := by decide +kernel
theorem dX3_leave_6 : decode cX3_leave 6 = .ok (.iconst 0, 1) := by decide +kernel
theorem dX3_leave_7 : decode cX3_leave 7 = .ok (.aload_n 0, 1) := by decide +kernel
theorem dX3_leave_8 : decode cX3_leave 8 = .ok (.getfield 84, 3) := by decide +kernel
theorem dX3_leave_11 : decode cX3_leave 11 = .ok (.iconst 1, 1) := by decide +kernel
theorem dX3_leave_12 : decode cX3_leave 12 = .ok (.isub, 1) := by decide +kernel
theorem dX3_leave_13 : decode cX3_leave 13 = .ok (.invokestatic 93, 3) := by decide +kernel
theorem dX3_leave_16 : decode cX3_leave 16 = .ok (.ifCond .ne 5, 3) := by decide +kernel
theorem dX3_leave_19 : decode cX3_leave 19 = .ok (.iconst (-1), 1) := by decide +kernel
theorem dX3_leave_20 : decode cX3_leave 20 = .ok (.ireturn, 1) := by decide +kernel
theorem dX3_leave_21 : decode cX3_leave 21 = .ok (.aload_n 0, 1) := by decide +kernel
theorem dX3_leave_22 : decode cX3_leave 22 = .ok (.getfield 35, 3) := by decide +kernel
theorem dX3_leave_25 : decode cX3_leave 25 = .ok (.iload_n 1, 1) := by decide +kernel
theorem dX3_leave_26 : decode cX3_leave 26 = .ok (.iaload, 1) := by decide +kernel
theorem dX3_leave_27 : decode cX3_leave 27 = .ok (.istore_n 2, 1) := by decide +kernel
theorem dX3_leave_28 : decode cX3_leave 28 = .ok (.aload_n 0, 1) := by decide +kernel
theorem dX3_leave_29 : decode cX3_leave 29 = .ok (.iload_n 1, 1) := by decide +kernel
theorem dX3_leave_30 : decode cX3_leave 30 = .ok (.invokevirtual 90, 3) := by decide +kernel
theorem dX3_leave_33 : decode cX3_leave 33 = .ok (.iload_n 2, 1) := by decide +kernel
theorem dX3_leave_34 : decode cX3_leave 34 = .ok (.ireturn, 1) := by decide +kernel
theorem dX3_seat_0 : decode cX3_seat 0 = .ok (.aload_n 0, 1) := by decide +kernel
theorem dX3_seat_1 : decode cX3_seat 1 = .ok (.iconst 0, 1) := by decide +kernel
theorem dX3_seat_2 : decode cX3_seat 2 = .ok (.putfield 50, 3) := by decide +kernel
theorem dX3_seat_5 : decode cX3_seat 5 = .ok (.iload_n 1, 1) := by decide +kernel
theorem dX3_seat_6 : decode cX3_seat 6 = .ok (.iconst 0, 1) := by decide +kernel
theorem dX3_seat_7 : decode cX3_seat 7 = .ok (.bipush 9, 2) := by decide +kernel
theorem dX3_seat_9 : decode cX3_seat 9 = .ok (.invokestatic 93, 3) := by decide +kernel
theorem dX3_seat_12 : decode cX3_seat 12 = .ok (.ifCond .eq 7, 3) := by decide +kernel
theorem dX3_seat_15 : decode cX3_seat 15 = .ok (.iload_n 2, 1) := by decide +kernel
theorem dX3_seat_16 : decode cX3_seat 16 = .ok (.ifCond .ge 5, 3) := by decide +kernel
theorem dX3_seat_19 : decode cX3_seat 19 = .ok (.iconst (-1), 1) := by decide +kernel
theorem dX3_seat_20 : decode cX3_seat 20 = .ok (.ireturn, 1) := by decide +kernel
theorem dX3_seat_21 : decode cX3_seat 21 = .ok (.aload_n 0, 1) := by decide +kernel
theorem dX3_seat_22 : decode cX3_seat 22 = .ok (.getfield 7, 3) := by decide +kernel
theorem dX3_seat_25 : decode cX3_seat 25 = .ok (.iload_n 1, 1) := by decide +kernel
theorem dX3_seat_26 : decode cX3_seat 26 = .ok (.baload, 1) := by decide +kernel
theorem dX3_seat_27 : decode cX3_seat 27 = .ok (.ifCond .eq 13, 3) := by decide +kernel
theorem dX3_seat_30 : decode cX3_seat 30 = .ok (.iload_n 2, 1) := by decide +kernel
theorem dX3_seat_31 : decode cX3_seat 31 = .ok (.aload_n 0, 1) := by decide +kernel
theorem dX3_seat_32 : decode cX3_seat 32 = .ok (.getfield 16, 3) := by decide +kernel
theorem dX3_seat_35 : decode cX3_seat 35 = .ok (.iload_n 1, 1) := by decide +kernel
theorem dX3_seat_36 : decode cX3_seat 36 = .ok (.iaload, 1) := by decide +kernel
theorem dX3_seat_37 : decode cX3_seat 37 = .ok (.if_icmp .lt 6, 3) := by decide +kernel
theorem dX3_seat_40 : decode cX3_seat 40 = .ok (.bipush (-2), 2) := by decide +kernel
theorem dX3_seat_42 : decode cX3_seat 42 = .ok (.ireturn, 1) := by decide +kernel
theorem dX3_seat_43 : decode cX3_seat 43 = .ok (.aload_n 0, 1) := by decide +kernel
theorem dX3_seat_44 : decode cX3_seat 44 = .ok (.getfield 26, 3) := by decide +kernel
theorem dX3_seat_47 : decode cX3_seat 47 = .ok (.bipush 20, 2) := by decide +kernel
theorem dX3_seat_49 : decode cX3_seat 49 = .ok (.iload_n 1, 1) := by decide +kernel
theorem dX3_seat_50 : decode cX3_seat 50 = .ok (.imul, 1) := by decide +kernel
theorem dX3_seat_51 : decode cX3_seat 51 = .ok (.iload_n 2, 1) := by decide +kernel
theorem dX3_seat_52 : decode cX3_seat 52 = .ok (.iadd, 1) := by decide +kernel
theorem dX3_seat_53 : decode cX3_seat 53 = .ok (.iaload, 1) := by decide +kernel
theorem dX3_seat_54 : decode cX3_seat 54 = .ok (.bipush (-8), 2) := by decide +kernel
theorem dX3_seat_56 : decode cX3_seat 56 = .ok (.if_icmp .ne 8, 3) := by decide +kernel
theorem dX3_seat_59 : decode cX3_seat 59 = .ok (.bipush (-8), 2) := by decide +kernel
theorem dX3_seat_61 : decode cX3_seat 61 = .ok (.goto 14, 3) := by decide +kernel
theorem dX3_seat_64 : decode cX3_seat 64 = .ok (.aload_n 0, 1) := by decide +kernel
theorem dX3_seat_65 : decode cX3_seat 65 = .ok (.getfield 26, 3) := by decide +kernel
theorem dX3_seat_68 : decode cX3_seat 68 = .ok (.bipush 20, 2) := by decide +kernel
theorem dX3_seat_70 : decode cX3_seat 70 = .ok (.iload_n 1, 1) := by decide +kernel
theorem dX3_seat_71 : decode cX3_seat 71 = .ok (.imul, 1) := by decide +kernel
theorem dX3_seat_72 : decode cX3_seat 72 = .ok (.iload_n 2, 1) := by decide +kernel
theorem dX3_seat_73 : decode cX3_seat 73 = .ok (.iadd, 1) := by decide +kernel
theorem dX3_seat_74 : decode cX3_seat 74 = .ok (.iaload, 1) := by decide +kernel
theorem dX3_seat_75 : decode cX3_seat 75 = .ok (.ireturn, 1) := by decide +kernel
theorem dX3_has_0 : decode cX3_has 0 = .ok (.aload_n 0, 1) := by decide +kernel
theorem dX3_has_1 : decode cX3_has 1 = .ok (.iconst 0, 1) := by decide +kernel
theorem dX3_has_2 : decode cX3_has 2 = .ok (.putfield 50, 3) := by decide +kernel
theorem dX3_has_5 : decode cX3_has 5 = .ok (.iload_n 1, 1) := by decide +kernel
theorem dX3_has_6 : decode cX3_has 6 = .ok (.iconst 0, 1) := by decide +kernel
theorem dX3_has_7 : decode cX3_has 7 = .ok (.aload_n 0, 1) := by decide +kernel
theorem dX3_has_8 : decode cX3_has 8 = .ok (.getfield 54, 3) := by decide +kernel
theorem dX3_has_11 : decode cX3_has 11 = .ok (.iconst 1, 1) := by decide +kernel
theorem dX3_has_12 : decode cX3_has 12 = .ok (.isub, 1) := by decide +kernel
theorem dX3_has_13 : decode cX3_has 13 = .ok (.invokestatic 93, 3) := by decide +kernel
theorem dX3_has_16 : decode cX3_has 16 = .ok (.ifCond .eq 13, 3) := by decide +kernel
theorem dX3_has_19 : decode cX3_has 19 = .ok (.iload_n 2, 1) := by decide +kernel
theorem dX3_has_20 : decode cX3_has 20 = .ok (.iconst 0, 1) := by decide +kernel
theorem dX3_has_21 : decode cX3_has 21 = .ok (.bipush 9, 2) := by decide +kernel
theorem dX3_has_23 : decode cX3_has 23 = .ok (.invokestatic 93, 3) := by decide +kernel
theorem dX3_has_26 : decode cX3_has 26 = .ok (.ifCond .ne 5, 3) := by decide +kernel
theorem dX3_has_29 : decode cX3_has 29 = .ok (.iconst (-1), 1) := by decide +kernel
theorem dX3_has_30 : decode cX3_has 30 = .ok (.ireturn, 1) := by decide +kernel
theorem dX3_has_31 : decode cX3_has 31 = .ok (.iconst 0, 1) := by decide +kernel
theorem dX3_has_32 : decode cX3_has 32 = .ok (.istore_n 3, 1) := by decide +kernel
theorem dX3_has_33 : decode cX3_has 33 = .ok (.iconst 0, 1) := by decide +kernel
theorem dX3_has_34 : decode cX3_has 34 = .ok (.istore 4, 2) := by decide +kernel
theorem dX3_has_36 : decode cX3_has 36 = .ok (.aload_n 0, 1) := by decide +kernel
theorem dX3_has_37 : decode cX3_has 37 = .ok (.getfield 7, 3) := by decide +kernel
theorem dX3_has_40 : decode cX3_has 40 = .ok (.iload_n 2, 1) := by decide +kernel
theorem dX3_has_41 : decode cX3_has 41 = .ok (.baload, 1) := by decide +kernel
theorem dX3_has_42 : decode cX3_has 42 = .ok (.ifCond .eq 44, 3) := by decide +kernel
theorem dX3_has_45 : decode cX3_has 45 = .ok (.iload 4, 2) := by decide +kernel
theorem dX3_has_47 : decode cX3_has 47 = .ok (.aload_n 0, 1) := by decide +kernel
theorem dX3_has_48 : decode cX3_has 48 = .ok (.getfield 16, 3) := by decide +kernel
theorem dX3_has_51 : decode cX3_has 51 = .ok (.iload_n 2, 1) := by decide +kernel
theorem dX3_has_52 : decode cX3_has 52 = .ok (.iaload, 1) := by decide +kernel
theorem dX3_has_53 : decode cX3_has 53 = .ok (.if_icmp .ge 33, 3) := by decide +kernel
theorem dX3_has_56 : decode cX3_has 56 = .ok (.iload_n 3, 1) := by decide +kernel
theorem dX3_has_57 : decode cX3_has 57 = .ok (.aload_n 0, 1) := by decide +kernel
theorem dX3_has_58 : decode cX3_has 58 = .ok (.getfield 26, 3) := by decide +kernel
theorem dX3_has_61 : decode cX3_has 61 = .ok (.bipush 20, 2) := by decide +kernel
theorem dX3_has_63 : decode cX3_has 63 = .ok (.iload_n 2, 1) := by decide +kernel
theorem dX3_has_64 : decode cX3_has 64 = .ok (.imul, 1) := by decide +kernel
theorem dX3_has_65 : decode cX3_has 65 = .ok (.iload 4, 2) := by decide +kernel
theorem dX3_has_67 : decode cX3_has 67 = .ok (.iadd, 1) := by decide +kernel
theorem dX3_has_68 : decode cX3_has 68 = .ok (.iaload, 1) := by decide +kernel
theorem dX3_has_69 : decode cX3_has 69 = .ok (.iload_n 1, 1) := by decide +kernel
theorem dX3_has_70 : decode cX3_has 70 = .ok (.if_icmp .ne 7, 3) := by decide +kernel
theorem dX3_has_73 : decode cX3_has 73 = .ok (.iconst 1, 1) := by decide +kernel
theorem dX3_has_74 : decode cX3_has 74 = .ok (.goto 4, 3) := by decide +kernel
theorem dX3_has_77 : decode cX3_has 77 = .ok (.iconst 0, 1) := by decide +kernel
theorem dX3_has_78 : decode cX3_has 78 = .ok (.iadd, 1) := by decide +kernel
theorem dX3_has_79 : decode cX3_has 79 = .ok (.istore_n 3, 1) := by decide +kernel
theorem dX3_has_80 : decode cX3_has 80 = .ok (.iinc 4 1, 3) := by decide +kernel
theorem dX3_has_83 : decode cX3_has 83 = .ok (.goto (-47), 3) := by decide +kernel
theorem dX3_has_86 : decode cX3_has 86 = .ok (.iload_n 3, 1) := by decide +kernel
theorem dX3_has_87 : decode cX3_has 87 = .ok (.ireturn, 1) := by decide +kernel
theorem dX3_about_0 : decode cX3_about 0 = .ok (.aload_n 0, 1) := by decide +kernel
theorem dX3_about_1 : decode cX3_about 1 = .ok (.iconst 0, 1) := by decide +kernel
theorem dX3_about_2 : decode cX3_about 2 = .ok (.putfield 50, 3) := by decide +kernel
theorem dX3_about_5 : decode cX3_about 5 = .ok (.iload_n 1, 1) := by decide +kernel
theorem dX3_about_6 : decode cX3_about 6 = .ok (.iconst 0, 1) := by decide +kernel
theorem dX3_about_7 : decode cX3_about 7 = .ok (.bipush 9, 2) := by decide +kernel
theorem dX3_about_9 : decode cX3_about 9 = .ok (.invokestatic 93, 3) := by decide +kernel
theorem dX3_about_12 : decode cX3_about 12 = .ok (.ifCond .eq 12, 3) := by decide +kernel
theorem dX3_about_15 : decode cX3_about 15 = .ok (.iload_n 2, 1) := by decide +kernel
theorem dX3_about_16 : decode cX3_about 16 = .ok (.iconst 0, 1) := by decide +kernel
theorem dX3_about_17 : decode cX3_about 17 = .ok (.iconst 3, 1) := by decide +kernel
theorem dX3_about_18 : decode cX3_about 18 = .ok (.invokestatic 93, 3) := by decide +kernel
theorem dX3_about_21 : decode cX3_about 21 = .ok (.ifCond .ne 5, 3) := by decide +kernel
theorem dX3_about_24 : decode cX3_about 24 = .ok (.iconst (-1), 1) := by decide +kernel
theorem dX3_about_25 : decode cX3_about 25 = .ok (.ireturn, 1) := by decide +kernel
theorem dX3_about_26 : decode cX3_about 26 = .ok (.aload_n 0, 1) := by decide +kernel
theorem dX3_about_27 : decode cX3_about 27 = .ok (.getfield 7, 3) := by decide +kernel
theorem dX3_about_30 : decode cX3_about 30 = .ok (.iload_n 1, 1) := by decide +kernel
theorem dX3_about_31 : decode cX3_about 31 = .ok (.baload, 1) := by decide +kernel
theorem dX3_about_32 : decode cX3_about 32 = .ok (.ifCond .ne 6, 3) := by decide +kernel
theorem dX3_about_35 : decode cX3_about 35 = .ok (.bipush (-2), 2) := by decide +kernel
theorem dX3_about_37 : decode cX3_about 37 = .ok (.ireturn, 1) := by decide +kernel
theorem dX3_about_38 : decode cX3_about 38 = .ok (.iload_n 2, 1) := by decide +kernel
theorem dX3_about_39 : decode cX3_about 39 = .ok (.ifCond .ne 11, 3) := by decide +kernel
theorem dX3_about_42 : decode cX3_about 42 = .ok (.aload_n 0, 1) := by decide +kernel
theorem dX3_about_43 : decode cX3_about 43 = .ok (.iload_n 1, 1) := by decide +kernel
theorem dX3_about_44 : decode cX3_about 44 = .ok (.invokevirtual 101, 3) := by decide +kernel
theorem dX3_about_47 : decode cX3_about 47 = .ok (.goto 37, 3) := by decide +kernel
theorem dX3_about_50 : decode cX3_about 50 = .ok (.iload_n 2, 1) := by decide +kernel
theorem dX3_about_51 : decode cX3_about 51 = .ok (.iconst 1, 1) := by decide +kernel
theorem dX3_about_52 : decode cX3_about 52 = .ok (.if_icmp .ne 12, 3) := by decide +kernel
theorem dX3_about_55 : decode cX3_about 55 = .ok (.aload_n 0, 1) := by decide +kernel
theorem dX3_about_56 : decode cX3_about 56 = .ok (.getfield 20, 3) := by decide +kernel
theorem dX3_about_59 : decode cX3_about 59 = .ok (.iload_n 1, 1) := by decide +kernel
theorem dX3_about_60 : decode cX3_about 60 = .ok (.iaload, 1) := by decide +kernel
theorem dX3_about_61 : decode cX3_about 61 = .ok (.goto 23, 3) := by decide +kernel
theorem dX3_about_64 : decode cX3_about 64 = .ok (.iload_n 2, 1) := by decide +kernel
theorem dX3_about_65 : decode cX3_about 65 = .ok (.iconst 2, 1) := by decide +kernel
theorem dX3_about_66 : decode cX3_about 66 = .ok (.if_icmp .ne 12, 3) := by decide +kernel
theorem dX3_about_69 : decode cX3_about 69 = .ok (.aload_n 0, 1) := by decide +kernel
theorem dX3_about_70 : decode cX3_about 70 = .ok (.getfield 23, 3) := by decide +kernel
theorem dX3_about_73 : decode cX3_about 73 = .ok (.iload_n 1, 1) := by decide +kernel
theorem dX3_about_74 : decode cX3_about 74 = .ok (.iaload, 1) := by decide +kernel
theorem dX3_about_75 : decode cX3_about 75 = .ok (.goto 9, 3) := by decide +kernel
theorem dX3_about_78 : decode cX3_about 78 = .ok (.aload_n 0, 1) := by decide +kernel
theorem dX3_about_79 : decode cX3_about 79 = .ok (.getfield 16, 3) := by decide +kernel
theorem dX3_about_82 : decode cX3_about 82 = .ok (.iload_n 1, 1) := by decide +kernel
theorem dX3_about_83 : decode cX3_about 83 = .ok (.iaload, 1) := by decide +kernel
theorem dX3_about_84 : decode cX3_about 84 = .ok (.ireturn, 1) := by decide +kernel
theorem dX3_told_0 : decode cX3_told 0 = .ok (.aload_n 0, 1) := by decide +kernel
theorem dX3_told_1 : decode cX3_told 1 = .ok (.iconst 0, 1) := by decide +kernel
theorem dX3_told_2 : decode cX3_told 2 = .ok (.putfield 50, 3) := by decide +kernel
theorem dX3_told_5 : decode cX3_told 5 = .ok (.iconst 0, 1) := by decide +kernel
theorem dX3_told_6 : decode cX3_told 6 = .ok (.istore_n 2, 1) := by decide +kernel
theorem dX3_told_7 : decode cX3_told 7 = .ok (.iconst 0, 1) := by decide +kernel
theorem dX3_told_8 : decode cX3_told 8 = .ok (.istore_n 3, 1) := by decide +kernel
theorem dX3_told_9 : decode cX3_told 9 = .ok (.iload_n 3, 1) := by decide +kernel
theorem dX3_told_10 : decode cX3_told 10 = .ok (.bipush 10, 2) := by decide +kernel
theorem dX3_told_12 : decode cX3_told 12 = .ok (.if_icmp .ge 26, 3) := by decide +kernel
theorem dX3_told_15 : decode cX3_told 15 = .ok (.iload_n 2, 1) := by decide +kernel
theorem dX3_told_16 : decode cX3_told 16 = .ok (.aload_n 0, 1) := by decide +kernel
theorem dX3_told_17 : decode cX3_told 17 = .ok (.getfield 7, 3) := by decide +kernel
theorem dX3_told_20 : decode cX3_told 20 = .ok (.iload_n 3, 1) := by decide +kernel
theorem dX3_told_21 : decode cX3_told 21 = .ok (.baload, 1) := by decide +kernel
theorem dX3_told_22 : decode cX3_told 22 = .ok (.ifCond .eq 7, 3) := by decide +kernel
theorem dX3_told_25 : decode cX3_told 25 = .ok (.iconst 1, 1) := by decide +kernel
theorem dX3_told_26 : decode cX3_told 26 = .ok (.goto 4, 3) := by decide +kernel
theorem dX3_told_29 : decode cX3_told 29 = .ok (.iconst 0, 1) := by decide +kernel
theorem dX3_told_30 : decode cX3_told 30 = .ok (.iadd, 1) := by decide +kernel
theorem dX3_told_31 : decode cX3_told 31 = .ok (.istore_n 2, 1) := by decide +kernel
theorem dX3_told_32 : decode cX3_told 32 = .ok (.iinc 3 1, 3) := by decide +kernel
theorem dX3_told_35 : decode cX3_told 35 = .ok (.goto (-26), 3) := by decide +kernel
theorem dX3_told_38 : decode cX3_told 38 = .ok (.iload_n 1, 1) := by decide +kernel
theorem dX3_told_39 : decode cX3_told 39 = .ok (.tableswitch 64 0 5 #[37, 42, 47, 52, 57, 62], 37) := by decide +kernel
theorem dX3_told_76 : decode cX3_told 76 = .ok (.aload_n 0, 1) := by decide +kernel
theorem dX3_told_77 : decode cX3_told 77 = .ok (.getfield 54, 3) := by decide +kernel
theorem dX3_told_80 : decode cX3_told 80 = .ok (.ireturn, 1) := by decide +kernel
theorem dX3_told_81 : decode cX3_told 81 = .ok (.aload_n 0, 1) := by decide +kernel
theorem dX3_told_82 : decode cX3_told 82 = .ok (.getfield 84, 3) := by decide +kernel
theorem dX3_told_85 : decode cX3_told 85 = .ok (.ireturn, 1) := by decide +kernel
theorem dX3_told_86 : decode cX3_told 86 = .ok (.aload_n 0, 1) := by decide +kernel
theorem dX3_told_87 : decode cX3_told 87 = .ok (.getfield 74, 3) := by decide +kernel
theorem dX3_told_90 : decode cX3_told 90 = .ok (.ireturn, 1) := by decide +kernel
theorem dX3_told_91 : decode cX3_told 91 = .ok (.aload_n 0, 1) := by decide +kernel
theorem dX3_told_92 : decode cX3_told 92 = .ok (.getfield 81, 3) := by decide +kernel
theorem dX3_told_95 : decode cX3_told 95 = .ok (.ireturn, 1) := by decide +kernel
theorem dX3_told_96 : decode cX3_told 96 = .ok (.aload_n 0, 1) := by decide +kernel
theorem dX3_told_97 : decode cX3_told 97 = .ok (.getfield 105, 3) := by decide +kernel
theorem dX3_told_100 : decode cX3_told 100 = .ok (.ireturn, 1) := by decide +kernel
theorem dX3_told_101 : decode cX3_told 101 = .ok (.iload_n 2, 1) := by decide +kernel
theorem dX3_told_102 : decode cX3_told 102 = .ok (.ireturn, 1) := by decide +kernel
theorem dX3_told_103 : decode cX3_told 103 = .ok (.iconst (-1), 1) := by decide +kernel
theorem dX3_told_104 : decode cX3_told 104 = .ok (.ireturn, 1) := by decide +kernel
theorem dX3_waiting_0 : decode cX3_waiting 0 = .ok (.aload_n 0, 1) := by decide +kernel
theorem dX3_waiting_1 : decode cX3_waiting 1 = .ok (.iconst 0, 1) := by decide +kernel
theorem dX3_waiting_2 : decode cX3_waiting 2 = .ok (.putfield 50, 3) := by decide +kernel
theorem dX3_waiting_5 : decode cX3_waiting 5 = .ok (.iload_n 1, 1) := by decide +kernel
theorem dX3_waiting_6 : decode cX3_waiting 6 = .ok (.iconst 0, 1) := by decide +kernel
theorem dX3_waiting_7 : decode cX3_waiting 7 = .ok (.aload_n 0, 1) := by decide +kernel
theorem dX3_waiting_8 : decode cX3_waiting 8 = .ok (.getfield 84, 3) := by decide +kernel
theorem dX3_waiting_11 : decode cX3_waiting 11 = .ok (.iconst 1, 1) := by decide +kernel
theorem dX3_waiting_12 : decode cX3_waiting 12 = .ok (.isub, 1) := by decide +kernel
theorem dX3_waiting_13 : decode cX3_waiting 13 = .ok (.invokestatic 93, 3) := by decide +kernel
theorem dX3_waiting_16 : decode cX3_waiting 16 = .ok (.ifCond .eq 12, 3) := by decide +kernel
theorem dX3_waiting_19 : decode cX3_waiting 19 = .ok (.aload_n 0, 1) := by decide +kernel
theorem dX3_waiting_20 : decode cX3_waiting 20 = .ok (.getfield 35, 3) := by decide +kernel
theorem dX3_waiting_23 : decode cX3_waiting 23 = .ok (.iload_n 1, 1) := by decide +kernel
theorem dX3_waiting_24 : decode cX3_waiting 24 = .ok (.iaload, 1) := by decide +kernel
theorem dX3_waiting_25 : decode cX3_waiting 25 = .ok (.goto 5, 3) := by decide +kernel
theorem dX3_waiting_28 : decode cX3_waiting 28 = .ok (.bipush (-8), 2) := by decide +kernel
theorem dX3_waiting_30 : decode cX3_waiting 30 = .ok (.ireturn, 1) := by decide +kernel
theorem dJ6_bitCount_0f7a4_0 : decode cJ6_bitCount_0f7a4 0 = .ok (.iload_n 0, 1) := by decide +kernel
theorem dJ6_bitCount_0f7a4_1 : decode cJ6_bitCount_0f7a4 1 = .ok (.iload_n 0, 1) := by decide +kernel
theorem dJ6_bitCount_0f7a4_2 : decode cJ6_bitCount_0f7a4 2 = .ok (.iconst 1, 1) := by decide +kernel
theorem dJ6_bitCount_0f7a4_3 : decode cJ6_bitCount_0f7a4 3 = .ok (.iushr, 1) := by decide +kernel
theorem dJ6_bitCount_0f7a4_4 : decode cJ6_bitCount_0f7a4 4 = .ok (.ldc_w 265, 3) := by decide +kernel
theorem dJ6_bitCount_0f7a4_7 : decode cJ6_bitCount_0f7a4 7 = .ok (.iand, 1) := by decide +kernel
theorem dJ6_bitCount_0f7a4_8 : decode cJ6_bitCount_0f7a4 8 = .ok (.isub, 1) := by decide +kernel
theorem dJ6_bitCount_0f7a4_9 : decode cJ6_bitCount_0f7a4 9 = .ok (.istore_n 0, 1) := by decide +kernel
theorem dJ6_bitCount_0f7a4_10 : decode cJ6_bitCount_0f7a4 10 = .ok (.iload_n 0, 1) := by decide +kernel
theorem dJ6_bitCount_0f7a4_11 : decode cJ6_bitCount_0f7a4 11 = .ok (.ldc_w 266, 3) := by decide +kernel
theorem dJ6_bitCount_0f7a4_14 : decode cJ6_bitCount_0f7a4 14 = .ok (.iand, 1) := by decide +kernel
theorem dJ6_bitCount_0f7a4_15 : decode cJ6_bitCount_0f7a4 15 = .ok (.iload_n 0, 1) := by decide +kernel
theorem dJ6_bitCount_0f7a4_16 : decode cJ6_bitCount_0f7a4 16 = .ok (.iconst 2, 1) := by decide +kernel
theorem dJ6_bitCount_0f7a4_17 : decode cJ6_bitCount_0f7a4 17 = .ok (.iushr, 1) := by decide +kernel
theorem dJ6_bitCount_0f7a4_18 : decode cJ6_bitCount_0f7a4 18 = .ok (.ldc_w 266, 3) := by decide +kernel
theorem dJ6_bitCount_0f7a4_21 : decode cJ6_bitCount_0f7a4 21 = .ok (.iand, 1) := by decide +kernel
theorem dJ6_bitCount_0f7a4_22 : decode cJ6_bitCount_0f7a4 22 = .ok (.iadd, 1) := by decide +kernel
theorem dJ6_bitCount_0f7a4_23 : decode cJ6_bitCount_0f7a4 23 = .ok (.istore_n 0, 1) := by decide +kernel
theorem dJ6_bitCount_0f7a4_24 : decode cJ6_bitCount_0f7a4 24 = .ok (.iload_n 0, 1) := by decide +kernel
theorem dJ6_bitCount_0f7a4_25 : decode cJ6_bitCount_0f7a4 25 = .ok (.iload_n 0, 1) := by decide +kernel
theorem dJ6_bitCount_0f7a4_26 : decode cJ6_bitCount_0f7a4 26 = .ok (.iconst 4, 1) := by decide +kernel
theorem dJ6_bitCount_0f7a4_27 : decode cJ6_bitCount_0f7a4 27 = .ok (.iushr, 1) := by decide +kernel
theorem dJ6_bitCount_0f7a4_28 : decode cJ6_bitCount_0f7a4 28 = .ok (.iadd, 1) := by decide +kernel
theorem dJ6_bitCount_0f7a4_29 : decode cJ6_bitCount_0f7a4 29 = .ok (.ldc_w 267, 3) := by decide +kernel
theorem dJ6_bitCount_0f7a4_32 : decode cJ6_bitCount_0f7a4 32 = .ok (.iand, 1) := by decide +kernel
theorem dJ6_bitCount_0f7a4_33 : decode cJ6_bitCount_0f7a4 33 = .ok (.istore_n 0, 1) := by decide +kernel
theorem dJ6_bitCount_0f7a4_34 : decode cJ6_bitCount_0f7a4 34 = .ok (.iload_n 0, 1) := by decide +kernel
theorem dJ6_bitCount_0f7a4_35 : decode cJ6_bitCount_0f7a4 35 = .ok (.iload_n 0, 1) := by decide +kernel
theorem dJ6_bitCount_0f7a4_36 : decode cJ6_bitCount_0f7a4 36 = .ok (.bipush 8, 2) := by decide +kernel
theorem dJ6_bitCount_0f7a4_38 : decode cJ6_bitCount_0f7a4 38 = .ok (.iushr, 1) := by decide +kernel
theorem dJ6_bitCount_0f7a4_39 : decode cJ6_bitCount_0f7a4 39 = .ok (.iadd, 1) := by decide +kernel
theorem dJ6_bitCount_0f7a4_40 : decode cJ6_bitCount_0f7a4 40 = .ok (.istore_n 0, 1) := by decide +kernel
theorem dJ6_bitCount_0f7a4_41 : decode cJ6_bitCount_0f7a4 41 = .ok (.iload_n 0, 1) := by decide +kernel
theorem dJ6_bitCount_0f7a4_42 : decode cJ6_bitCount_0f7a4 42 = .ok (.iload_n 0, 1) := by decide +kernel
theorem dJ6_bitCount_0f7a4_43 : decode cJ6_bitCount_0f7a4 43 = .ok (.bipush 16, 2) := by decide +kernel
theorem dJ6_bitCount_0f7a4_45 : decode cJ6_bitCount_0f7a4 45 = .ok (.iushr, 1) := by decide +kernel
theorem dJ6_bitCount_0f7a4_46 : decode cJ6_bitCount_0f7a4 46 = .ok (.iadd, 1) := by decide +kernel
theorem dJ6_bitCount_0f7a4_47 : decode cJ6_bitCount_0f7a4 47 = .ok (.istore_n 0, 1) := by decide +kernel
theorem dJ6_bitCount_0f7a4_48 : decode cJ6_bitCount_0f7a4 48 = .ok (.iload_n 0, 1) := by decide +kernel
theorem dJ6_bitCount_0f7a4_49 : decode cJ6_bitCount_0f7a4 49 = .ok (.bipush 63, 2) := by decide +kernel
theorem dJ6_bitCount_0f7a4_51 : decode cJ6_bitCount_0f7a4 51 = .ok (.iand, 1) := by decide +kernel
theorem dJ6_bitCount_0f7a4_52 : decode cJ6_bitCount_0f7a4 52 = .ok (.ireturn, 1) := by decide +kernel
end
section
theorem dL_law_0 : decode cL_law 0 = .ok (.new 7, 3) := by decide +kernel
theorem dL_law_3 : decode cL_law 3 = .ok (.dup, 1) := by decide +kernel
theorem dL_law_4 : decode cL_law 4 = .ok (.invokespecial 9, 3) := by decide +kernel
theorem dL_law_7 : decode cL_law 7 = .ok (.astore_n 1, 1) := by decide +kernel
theorem dL_law_8 : decode cL_law 8 = .ok (.new 10, 3) := by decide +kernel
theorem dL_law_11 : decode cL_law 11 = .ok (.dup, 1) := by decide +kernel
theorem dL_law_12 : decode cL_law 12 = .ok (.invokespecial 12, 3) := by decide +kernel
theorem dL_law_15 : decode cL_law 15 = .ok (.astore_n 2, 1) := by decide +kernel
theorem dL_law_16 : decode cL_law 16 = .ok (.iconst 0, 1) := by decide +kernel
theorem dL_law_17 : decode cL_law 17 = .ok (.istore_n 3, 1) := by decide +kernel
theorem dL_law_18 : decode cL_law 18 = .ok (.iload_n 3, 1) := by decide +kernel
theorem dL_law_19 : decode cL_law 19 = .ok (.aload_n 0, 1) := by decide +kernel
theorem dL_law_20 : decode cL_law 20 = .ok (.arraylength, 1) := by decide +kernel
theorem dL_law_21 : decode cL_law 21 = .ok (.iconst 3, 1) := by decide +kernel
theorem dL_law_22 : decode cL_law 22 = .ok (.isub, 1) := by decide +kernel
theorem dL_law_23 : decode cL_law 23 = .ok (.if_icmp .gt 431, 3) := by decide +kernel
theorem dL_law_26 : decode cL_law 26 = .ok (.aload_n 0, 1) := by decide +kernel
theorem dL_law_27 : decode cL_law 27 = .ok (.iload_n 3, 1) := by decide +kernel
theorem dL_law_28 : decode cL_law 28 = .ok (.iaload, 1) := by decide +kernel
theorem dL_law_29 : decode cL_law 29 = .ok (.bipush 15, 2) := by decide +kernel
theorem dL_law_31 : decode cL_law 31 = .ok (.iand, 1) := by decide +kernel
theorem dL_law_32 : decode cL_law 32 = .ok (.tableswitch 416 0 11 #[64, 97, 120, 169, 192, 225, 248, 271, 304, 337, 370, 393], 64) := by decide +kernel
theorem dL_law_96 : decode cL_law 96 = .ok (.aload_n 1, 1) := by decide +kernel
theorem dL_law_97 : decode cL_law 97 = .ok (.aload_n 0, 1) := by decide +kernel
theorem dL_law_98 : decode cL_law 98 = .ok (.iload_n 3, 1) := by decide +kernel
theorem dL_law_99 : decode cL_law 99 = .ok (.iconst 1, 1) := by decide +kernel
theorem dL_law_100 : decode cL_law 100 = .ok (.iadd, 1) := by decide +kernel
theorem dL_law_101 : decode cL_law 101 = .ok (.iaload, 1) := by decide +kernel
theorem dL_law_102 : decode cL_law 102 = .ok (.aload_n 0, 1) := by decide +kernel
theorem dL_law_103 : decode cL_law 103 = .ok (.iload_n 3, 1) := by decide +kernel
theorem dL_law_104 : decode cL_law 104 = .ok (.iconst 2, 1) := by decide +kernel
theorem dL_law_105 : decode cL_law 105 = .ok (.iadd, 1) := by decide +kernel
theorem dL_law_106 : decode cL_law 106 = .ok (.iaload, 1) := by decide +kernel
theorem dL_law_107 : decode cL_law 107 = .ok (.invokevirtual 13, 3) := by decide +kernel
theorem dL_law_110 : decode cL_law 110 = .ok (.pop, 1) := by decide +kernel
theorem dL_law_111 : decode cL_law 111 = .ok (.aload_n 2, 1) := by decide +kernel
theorem dL_law_112 : decode cL_law 112 = .ok (.aload_n 0, 1) := by decide +kernel
theorem dL_law_113 : decode cL_law 113 = .ok (.iload_n 3, 1) := by decide +kernel
theorem dL_law_114 : decode cL_law 114 = .ok (.iconst 1, 1) := by decide +kernel
theorem dL_law_115 : decode cL_law 115 = .ok (.iadd, 1) := by decide +kernel
theorem dL_law_116 : decode cL_law 116 = .ok (.iaload, 1) := by decide +kernel
theorem dL_law_117 : decode cL_law 117 = .ok (.aload_n 0, 1) := by decide +kernel
theorem dL_law_118 : decode cL_law 118 = .ok (.iload_n 3, 1) := by decide +kernel
theorem dL_law_119 : decode cL_law 119 = .ok (.iconst 2, 1) := by decide +kernel
theorem dL_law_120 : decode cL_law 120 = .ok (.iadd, 1) := by decide +kernel
theorem dL_law_121 : decode cL_law 121 = .ok (.iaload, 1) := by decide +kernel
theorem dL_law_122 : decode cL_law 122 = .ok (.invokevirtual 17, 3) := by decide +kernel
theorem dL_law_125 : decode cL_law 125 = .ok (.pop, 1) := by decide +kernel
theorem dL_law_126 : decode cL_law 126 = .ok (.goto 322, 3) := by decide +kernel
theorem dL_law_129 : decode cL_law 129 = .ok (.aload_n 1, 1) := by decide +kernel
theorem dL_law_130 : decode cL_law 130 = .ok (.aload_n 0, 1) := by decide +kernel
theorem dL_law_131 : decode cL_law 131 = .ok (.iload_n 3, 1) := by decide +kernel
theorem dL_law_132 : decode cL_law 132 = .ok (.iconst 1, 1) := by decide +kernel
theorem dL_law_133 : decode cL_law 133 = .ok (.iadd, 1) := by decide +kernel
theorem dL_law_134 : decode cL_law 134 = .ok (.iaload, 1) := by decide +kernel
theorem dL_law_135 : decode cL_law 135 = .ok (.invokevirtual 18, 3) := by decide +kernel
theorem dL_law_138 : decode cL_law 138 = .ok (.pop, 1) := by decide +kernel
theorem dL_law_139 : decode cL_law 139 = .ok (.aload_n 2, 1) := by decide +kernel
theorem dL_law_140 : decode cL_law 140 = .ok (.aload_n 0, 1) := by decide +kernel
theorem dL_law_141 : decode cL_law 141 = .ok (.iload_n 3, 1) := by decide +kernel
theorem dL_law_142 : decode cL_law 142 = .ok (.iconst 1, 1) := by decide +kernel
theorem dL_law_143 : decode cL_law 143 = .ok (.iadd, 1) := by decide +kernel
theorem dL_law_144 : decode cL_law 144 = .ok (.iaload, 1) := by decide +kernel
theorem dL_law_145 : decode cL_law 145 = .ok (.invokevirtual 22, 3) := by decide +kernel
theorem dL_law_148 : decode cL_law 148 = .ok (.pop, 1) := by decide +kernel
theorem dL_law_149 : decode cL_law 149 = .ok (.goto 299, 3) := by decide +kernel
theorem dL_law_152 : decode cL_law 152 = .ok (.aload_n 1, 1) := by decide +kernel
theorem dL_law_153 : decode cL_law 153 = .ok (.aload_n 0, 1) := by decide +kernel
theorem dL_law_154 : decode cL_law 154 = .ok (.iload_n 3, 1) := by decide +kernel
theorem dL_law_155 : decode cL_law 155 = .ok (.iconst 1, 1) := by decide +kernel
theorem dL_law_156 : decode cL_law 156 = .ok (.iadd, 1) := by decide +kernel
theorem dL_law_157 : decode cL_law 157 = .ok (.iaload, 1) := by decide +kernel
theorem dL_law_158 : decode cL_law 158 = .ok (.aload_n 0, 1) := by decide +kernel
theorem dL_law_159 : decode cL_law 159 = .ok (.iload_n 3, 1) := by decide +kernel
theorem dL_law_160 : decode cL_law 160 = .ok (.iconst 2, 1) := by decide +kernel
theorem dL_law_161 : decode cL_law 161 = .ok (.iadd, 1) := by decide +kernel
theorem dL_law_162 : decode cL_law 162 = .ok (.iaload, 1) := by decide +kernel
theorem dL_law_163 : decode cL_law 163 = .ok (.ifCond .eq 7, 3) := by decide +kernel
theorem dL_law_166 : decode cL_law 166 = .ok (.iconst 1, 1) := by decide +kernel
theorem dL_law_167 : decode cL_law 167 = .ok (.goto 4, 3) := by decide +kernel
theorem dL_law_170 : decode cL_law 170 = .ok (.iconst 0, 1) := by decide +kernel
theorem dL_law_171 : decode cL_law 171 = .ok (.invokevirtual 23, 3) := by decide +kernel
theorem dL_law_174 : decode cL_law 174 = .ok (.pop, 1) := by decide +kernel
theorem dL_law_175 : decode cL_law 175 = .ok (.aload_n 2, 1) := by decide +kernel
theorem dL_law_176 : decode cL_law 176 = .ok (.aload_n 0, 1) := by decide +kernel
theorem dL_law_177 : decode cL_law 177 = .ok (.iload_n 3, 1) := by decide +kernel
theorem dL_law_178 : decode cL_law 178 = .ok (.iconst 1, 1) := by decide +kernel
theorem dL_law_179 : decode cL_law 179 = .ok (.iadd, 1) := by decide +kernel
theorem dL_law_180 : decode cL_law 180 = .ok (.iaload, 1) := by decide +kernel
theorem dL_law_181 : decode cL_law 181 = .ok (.aload_n 0, 1) := by decide +kernel
theorem dL_law_182 : decode cL_law 182 = .ok (.iload_n 3, 1) := by decide +kernel
theorem dL_law_183 : decode cL_law 183 = .ok (.iconst 2, 1) := by decide +kernel
theorem dL_law_184 : decode cL_law 184 = .ok (.iadd, 1) := by decide +kernel
theorem dL_law_185 : decode cL_law 185 = .ok (.iaload, 1) := by decide +kernel
theorem dL_law_186 : decode cL_law 186 = .ok (.ifCond .eq 7, 3) := by decide +kernel
theorem dL_law_189 : decode cL_law 189 = .ok (.iconst 1, 1) := by decide +kernel
theorem dL_law_190 : decode cL_law 190 = .ok (.goto 4, 3) := by decide +kernel
theorem dL_law_193 : decode cL_law 193 = .ok (.iconst 0, 1) := by decide +kernel
theorem dL_law_194 : decode cL_law 194 = .ok (.invokevirtual 27, 3) := by decide +kernel
theorem dL_law_197 : decode cL_law 197 = .ok (.pop, 1) := by decide +kernel
theorem dL_law_198 : decode cL_law 198 = .ok (.goto 250, 3) := by decide +kernel
theorem dL_law_201 : decode cL_law 201 = .ok (.aload_n 1, 1) := by decide +kernel
theorem dL_law_202 : decode cL_law 202 = .ok (.aload_n 0, 1) := by decide +kernel
theorem dL_law_203 : decode cL_law 203 = .ok (.iload_n 3, 1) := by decide +kernel
theorem dL_law_204 : decode cL_law 204 = .ok (.iconst 1, 1) := by decide +kernel
theorem dL_law_205 : decode cL_law 205 = .ok (.iadd, 1) := by decide +kernel
theorem dL_law_206 : decode cL_law 206 = .ok (.iaload, 1) := by decide +kernel
theorem dL_law_207 : decode cL_law 207 = .ok (.invokevirtual 28, 3) := by decide +kernel
theorem dL_law_210 : decode cL_law 210 = .ok (.pop, 1) := by decide +kernel
theorem dL_law_211 : decode cL_law 211 = .ok (.aload_n 2, 1) := by decide +kernel
theorem dL_law_212 : decode cL_law 212 = .ok (.aload_n 0, 1) := by decide +kernel
theorem dL_law_213 : decode cL_law 213 = .ok (.iload_n 3, 1) := by decide +kernel
theorem dL_law_214 : decode cL_law 214 = .ok (.iconst 1, 1) := by decide +kernel
theorem dL_law_215 : decode cL_law 215 = .ok (.iadd, 1) := by decide +kernel
theorem dL_law_216 : decode cL_law 216 = .ok (.iaload, 1) := by decide +kernel
theorem dL_law_217 : decode cL_law 217 = .ok (.invokevirtual 31, 3) := by decide +kernel
theorem dL_law_220 : decode cL_law 220 = .ok (.pop, 1) := by decide +kernel
theorem dL_law_221 : decode cL_law 221 = .ok (.goto 227, 3) := by decide +kernel
theorem dL_law_224 : decode cL_law 224 = .ok (.aload_n 1, 1) := by decide +kernel
theorem dL_law_225 : decode cL_law 225 = .ok (.aload_n 0, 1) := by decide +kernel
theorem dL_law_226 : decode cL_law 226 = .ok (.iload_n 3, 1) := by decide +kernel
theorem dL_law_227 : decode cL_law 227 = .ok (.iconst 1, 1) := by decide +kernel
theorem dL_law_228 : decode cL_law 228 = .ok (.iadd, 1) := by decide +kernel
theorem dL_law_229 : decode cL_law 229 = .ok (.iaload, 1) := by decide +kernel
theorem dL_law_230 : decode cL_law 230 = .ok (.aload_n 0, 1) := by decide +kernel
theorem dL_law_231 : decode cL_law 231 = .ok (.iload_n 3, 1) := by decide +kernel
theorem dL_law_232 : decode cL_law 232 = .ok (.iconst 2, 1) := by decide +kernel
theorem dL_law_233 : decode cL_law 233 = .ok (.iadd, 1) := by decide +kernel
theorem dL_law_234 : decode cL_law 234 = .ok (.iaload, 1) := by decide +kernel
theorem dL_law_235 : decode cL_law 235 = .ok (.invokevirtual 32, 3) := by decide +kernel
theorem dL_law_238 : decode cL_law 238 = .ok (.pop, 1) := by decide +kernel
theorem dL_law_239 : decode cL_law 239 = .ok (.aload_n 2, 1) := by decide +kernel
theorem dL_law_240 : decode cL_law 240 = .ok (.aload_n 0, 1) := by decide +kernel
theorem dL_law_241 : decode cL_law 241 = .ok (.iload_n 3, 1) := by decide +kernel
theorem dL_law_242 : decode cL_law 242 = .ok (.iconst 1, 1) := by decide +kernel
theorem dL_law_243 : decode cL_law 243 = .ok (.iadd, 1) := by decide +kernel
theorem dL_law_244 : decode cL_law 244 = .ok (.iaload, 1) := by decide +kernel
theorem dL_law_245 : decode cL_law 245 = .ok (.aload_n 0, 1) := by decide +kernel
theorem dL_law_246 : decode cL_law 246 = .ok (.iload_n 3, 1) := by decide +kernel
theorem dL_law_247 : decode cL_law 247 = .ok (.iconst 2, 1) := by decide +kernel
theorem dL_law_248 : decode cL_law 248 = .ok (.iadd, 1) := by decide +kernel
theorem dL_law_249 : decode cL_law 249 = .ok (.iaload, 1) := by decide +kernel
theorem dL_law_250 : decode cL_law 250 = .ok (.invokevirtual 35, 3) := by decide +kernel
theorem dL_law_253 : decode cL_law 253 = .ok (.pop, 1) := by decide +kernel
theorem dL_law_254 : decode cL_law 254 = .ok (.goto 194, 3) := by decide +kernel
theorem dL_law_257 : decode cL_law 257 = .ok (.aload_n 1, 1) := by decide +kernel
theorem dL_law_258 : decode cL_law 258 = .ok (.aload_n 0, 1) := by decide +kernel
theorem dL_law_259 : decode cL_law 259 = .ok (.iload_n 3, 1) := by decide +kernel
theorem dL_law_260 : decode cL_law 260 = .ok (.iconst 1, 1) := by decide +kernel
theorem dL_law_261 : decode cL_law 261 = .ok (.iadd, 1) := by decide +kernel
theorem dL_law_262 : decode cL_law 262 = .ok (.iaload, 1) := by decide +kernel
theorem dL_law_263 : decode cL_law 263 = .ok (.invokevirtual 36, 3) := by decide +kernel
theorem dL_law_266 : decode cL_law 266 = .ok (.pop, 1) := by decide +kernel
theorem dL_law_267 : decode cL_law 267 = .ok (.aload_n 2, 1) := by decide +kernel
theorem dL_law_268 : decode cL_law 268 = .ok (.aload_n 0, 1) := by decide +kernel
theorem dL_law_269 : decode cL_law 269 = .ok (.iload_n 3, 1) := by decide +kernel
theorem dL_law_270 : decode cL_law 270 = .ok (.iconst 1, 1) := by decide +kernel
theorem dL_law_271 : decode cL_law 271 = .ok (.iadd, 1) := by decide +kernel
theorem dL_law_272 : decode cL_law 272 = .ok (.iaload, 1) := by decide +kernel
theorem dL_law_273 : decode cL_law 273 = .ok (.invokevirtual 39, 3) := by decide +kernel
theorem dL_law_276 : decode cL_law 276 = .ok (.pop, 1) := by decide +kernel
theorem dL_law_277 : decode cL_law 277 = .ok (.goto 171, 3) := by decide +kernel
theorem dL_law_280 : decode cL_law 280 = .ok (.aload_n 1, 1) := by decide +kernel
theorem dL_law_281 : decode cL_law 281 = .ok (.aload_n 0, 1) := by decide +kernel
theorem dL_law_282 : decode cL_law 282 = .ok (.iload_n 3, 1) := by decide +kernel
theorem dL_law_283 : decode cL_law 283 = .ok (.iconst 1, 1) := by decide +kernel
theorem dL_law_284 : decode cL_law 284 = .ok (.iadd, 1) := by decide +kernel
theorem dL_law_285 : decode cL_law 285 = .ok (.iaload, 1) := by decide +kernel
theorem dL_law_286 : decode cL_law 286 = .ok (.invokevirtual 40, 3) := by decide +kernel
theorem dL_law_289 : decode cL_law 289 = .ok (.pop, 1) := by decide +kernel
theorem dL_law_290 : decode cL_law 290 = .ok (.aload_n 2, 1) := by decide +kernel
theorem dL_law_291 : decode cL_law 291 = .ok (.aload_n 0, 1) := by decide +kernel
theorem dL_law_292 : decode cL_law 292 = .ok (.iload_n 3, 1) := by decide +kernel
theorem dL_law_293 : decode cL_law 293 = .ok (.iconst 1, 1) := by decide +kernel
theorem dL_law_294 : decode cL_law 294 = .ok (.iadd, 1) := by decide +kernel
theorem dL_law_295 : decode cL_law 295 = .ok (.iaload, 1) := by decide +kernel
theorem dL_law_296 : decode cL_law 296 = .ok (.invokevirtual 43, 3) := by decide +kernel
theorem dL_law_299 : decode cL_law 299 = .ok (.pop, 1) := by decide +kernel
theorem dL_law_300 : decode cL_law 300 = .ok (.goto 148, 3) := by decide +kernel
theorem dL_law_303 : decode cL_law 303 = .ok (.aload_n 1, 1) := by decide +kernel
theorem dL_law_304 : decode cL_law 304 = .ok (.aload_n 0, 1) := by decide +kernel
theorem dL_law_305 : decode cL_law 305 = .ok (.iload_n 3, 1) := by decide +kernel
theorem dL_law_306 : decode cL_law 306 = .ok (.iconst 1, 1) := by decide +kernel
theorem dL_law_307 : decode cL_law 307 = .ok (.iadd, 1) := by decide +kernel
theorem dL_law_308 : decode cL_law 308 = .ok (.iaload, 1) := by decide +kernel
theorem dL_law_309 : decode cL_law 309 = .ok (.aload_n 0, 1) := by decide +kernel
theorem dL_law_310 : decode cL_law 310 = .ok (.iload_n 3, 1) := by decide +kernel
theorem dL_law_311 : decode cL_law 311 = .ok (.iconst 2, 1) := by decide +kernel
theorem dL_law_312 : decode cL_law 312 = .ok (.iadd, 1) := by decide +kernel
theorem dL_law_313 : decode cL_law 313 = .ok (.iaload, 1) := by decide +kernel
theorem dL_law_314 : decode cL_law 314 = .ok (.invokevirtual 44, 3) := by decide +kernel
theorem dL_law_317 : decode cL_law 317 = .ok (.pop, 1) := by decide +kernel
theorem dL_law_318 : decode cL_law 318 = .ok (.aload_n 2, 1) := by decide +kernel
theorem dL_law_319 : decode cL_law 319 = .ok (.aload_n 0, 1) := by decide +kernel
theorem dL_law_320 : decode cL_law 320 = .ok (.iload_n 3, 1) := by decide +kernel
theorem dL_law_321 : decode cL_law 321 = .ok (.iconst 1, 1) := by decide +kernel
theorem dL_law_322 : decode cL_law 322 = .ok (.iadd, 1) := by decide +kernel
theorem dL_law_323 : decode cL_law 323 = .ok (.iaload, 1) := by decide +kernel
theorem dL_law_324 : decode cL_law 324 = .ok (.aload_n 0, 1) := by decide +kernel
theorem dL_law_325 : decode cL_law 325 = .ok (.iload_n 3, 1) := by decide +kernel
theorem dL_law_326 : decode cL_law 326 = .ok (.iconst 2, 1) := by decide +kernel
theorem dL_law_327 : decode cL_law 327 = .ok (.iadd, 1) := by decide +kernel
theorem dL_law_328 : decode cL_law 328 = .ok (.iaload, 1) := by decide +kernel
theorem dL_law_329 : decode cL_law 329 = .ok (.invokevirtual 47, 3) := by decide +kernel
theorem dL_law_332 : decode cL_law 332 = .ok (.pop, 1) := by decide +kernel
theorem dL_law_333 : decode cL_law 333 = .ok (.goto 115, 3) := by decide +kernel
theorem dL_law_336 : decode cL_law 336 = .ok (.aload_n 1, 1) := by decide +kernel
theorem dL_law_337 : decode cL_law 337 = .ok (.aload_n 0, 1) := by decide +kernel
theorem dL_law_338 : decode cL_law 338 = .ok (.iload_n 3, 1) := by decide +kernel
theorem dL_law_339 : decode cL_law 339 = .ok (.iconst 1, 1) := by decide +kernel
theorem dL_law_340 : decode cL_law 340 = .ok (.iadd, 1) := by decide +kernel
theorem dL_law_341 : decode cL_law 341 = .ok (.iaload, 1) := by decide +kernel
theorem dL_law_342 : decode cL_law 342 = .ok (.aload_n 0, 1) := by decide +kernel
theorem dL_law_343 : decode cL_law 343 = .ok (.iload_n 3, 1) := by decide +kernel
theorem dL_law_344 : decode cL_law 344 = .ok (.iconst 2, 1) := by decide +kernel
theorem dL_law_345 : decode cL_law 345 = .ok (.iadd, 1) := by decide +kernel
theorem dL_law_346 : decode cL_law 346 = .ok (.iaload, 1) := by decide +kernel
theorem dL_law_347 : decode cL_law 347 = .ok (.invokevirtual 48, 3) := by decide +kernel
theorem dL_law_350 : decode cL_law 350 = .ok (.pop, 1) := by decide +kernel
theorem dL_law_351 : decode cL_law 351 = .ok (.aload_n 2, 1) := by decide +kernel
theorem dL_law_352 : decode cL_law 352 = .ok (.aload_n 0, 1) := by decide +kernel
theorem dL_law_353 : decode cL_law 353 = .ok (.iload_n 3, 1) := by decide +kernel
theorem dL_law_354 : decode cL_law 354 = .ok (.iconst 1, 1) := by decide +kernel
theorem dL_law_355 : decode cL_law 355 = .ok (.iadd, 1) := by decide +kernel
theorem dL_law_356 : decode cL_law 356 = .ok (.iaload, 1) := by decide +kernel
theorem dL_law_357 : decode cL_law 357 = .ok (.aload_n 0, 1) := by decide +kernel
theorem dL_law_358 : decode cL_law 358 = .ok (.iload_n 3, 1) := by decide +kernel
theorem dL_law_359 : decode cL_law 359 = .ok (.iconst 2, 1) := by decide +kernel
theorem dL_law_360 : decode cL_law 360 = .ok (.iadd, 1) := by decide +kernel
theorem dL_law_361 : decode cL_law 361 = .ok (.iaload, 1) := by decide +kernel
theorem dL_law_362 : decode cL_law 362 = .ok (.invokevirtual 51, 3) := by decide +kernel
theorem dL_law_365 : decode cL_law 365 = .ok (.pop, 1) := by decide +kernel
theorem dL_law_366 : decode cL_law 366 = .ok (.goto 82, 3) := by decide +kernel
theorem dL_law_369 : decode cL_law 369 = .ok (.aload_n 1, 1) := by decide +kernel
theorem dL_law_370 : decode cL_law 370 = .ok (.aload_n 0, 1) := by decide +kernel
theorem dL_law_371 : decode cL_law 371 = .ok (.iload_n 3, 1) := by decide +kernel
theorem dL_law_372 : decode cL_law 372 = .ok (.iconst 1, 1) := by decide +kernel
theorem dL_law_373 : decode cL_law 373 = .ok (.iadd, 1) := by decide +kernel
theorem dL_law_374 : decode cL_law 374 = .ok (.iaload, 1) := by decide +kernel
theorem dL_law_375 : decode cL_law 375 = .ok (.aload_n 0, 1) := by decide +kernel
theorem dL_law_376 : decode cL_law 376 = .ok (.iload_n 3, 1) := by decide +kernel
theorem dL_law_377 : decode cL_law 377 = .ok (.iconst 2, 1) := by decide +kernel
theorem dL_law_378 : decode cL_law 378 = .ok (.iadd, 1) := by decide +kernel
theorem dL_law_379 : decode cL_law 379 = .ok (.iaload, 1) := by decide +kernel
theorem dL_law_380 : decode cL_law 380 = .ok (.invokevirtual 52, 3) := by decide +kernel
theorem dL_law_383 : decode cL_law 383 = .ok (.pop, 1) := by decide +kernel
theorem dL_law_384 : decode cL_law 384 = .ok (.aload_n 2, 1) := by decide +kernel
theorem dL_law_385 : decode cL_law 385 = .ok (.aload_n 0, 1) := by decide +kernel
theorem dL_law_386 : decode cL_law 386 = .ok (.iload_n 3, 1) := by decide +kernel
theorem dL_law_387 : decode cL_law 387 = .ok (.iconst 1, 1) := by decide +kernel
theorem dL_law_388 : decode cL_law 388 = .ok (.iadd, 1) := by decide +kernel
theorem dL_law_389 : decode cL_law 389 = .ok (.iaload, 1) := by decide +kernel
theorem dL_law_390 : decode cL_law 390 = .ok (.aload_n 0, 1) := by decide +kernel
theorem dL_law_391 : decode cL_law 391 = .ok (.iload_n 3, 1) := by decide +kernel
theorem dL_law_392 : decode cL_law 392 = .ok (.iconst 2, 1) := by decide +kernel
theorem dL_law_393 : decode cL_law 393 = .ok (.iadd, 1) := by decide +kernel
theorem dL_law_394 : decode cL_law 394 = .ok (.iaload, 1) := by decide +kernel
theorem dL_law_395 : decode cL_law 395 = .ok (.invokevirtual 55, 3) := by decide +kernel
theorem dL_law_398 : decode cL_law 398 = .ok (.pop, 1) := by decide +kernel
theorem dL_law_399 : decode cL_law 399 = .ok (.goto 49, 3) := by decide +kernel
theorem dL_law_402 : decode cL_law 402 = .ok (.aload_n 1, 1) := by decide +kernel
theorem dL_law_403 : decode cL_law 403 = .ok (.aload_n 0, 1) := by decide +kernel
theorem dL_law_404 : decode cL_law 404 = .ok (.iload_n 3, 1) := by decide +kernel
theorem dL_law_405 : decode cL_law 405 = .ok (.iconst 1, 1) := by decide +kernel
theorem dL_law_406 : decode cL_law 406 = .ok (.iadd, 1) := by decide +kernel
theorem dL_law_407 : decode cL_law 407 = .ok (.iaload, 1) := by decide +kernel
theorem dL_law_408 : decode cL_law 408 = .ok (.invokevirtual 56, 3) := by decide +kernel
theorem dL_law_411 : decode cL_law 411 = .ok (.pop, 1) := by decide +kernel
theorem dL_law_412 : decode cL_law 412 = .ok (.aload_n 2, 1) := by decide +kernel
theorem dL_law_413 : decode cL_law 413 = .ok (.aload_n 0, 1) := by decide +kernel
theorem dL_law_414 : decode cL_law 414 = .ok (.iload_n 3, 1) := by decide +kernel
theorem dL_law_415 : decode cL_law 415 = .ok (.iconst 1, 1) := by decide +kernel
theorem dL_law_416 : decode cL_law 416 = .ok (.iadd, 1) := by decide +kernel
theorem dL_law_417 : decode cL_law 417 = .ok (.iaload, 1) := by decide +kernel
theorem dL_law_418 : decode cL_law 418 = .ok (.invokevirtual 59, 3) := by decide +kernel
theorem dL_law_421 : decode cL_law 421 = .ok (.pop, 1) := by decide +kernel
theorem dL_law_422 : decode cL_law 422 = .ok (.goto 26, 3) := by decide +kernel
theorem dL_law_425 : decode cL_law 425 = .ok (.aload_n 1, 1) := by decide +kernel
theorem dL_law_426 : decode cL_law 426 = .ok (.aload_n 0, 1) := by decide +kernel
theorem dL_law_427 : decode cL_law 427 = .ok (.iload_n 3, 1) := by decide +kernel
theorem dL_law_428 : decode cL_law 428 = .ok (.iconst 1, 1) := by decide +kernel
theorem dL_law_429 : decode cL_law 429 = .ok (.iadd, 1) := by decide +kernel
theorem dL_law_430 : decode cL_law 430 = .ok (.iaload, 1) := by decide +kernel
theorem dL_law_431 : decode cL_law 431 = .ok (.invokevirtual 60, 3) := by decide +kernel
theorem dL_law_434 : decode cL_law 434 = .ok (.aload_n 2, 1) := by decide +kernel
theorem dL_law_435 : decode cL_law 435 = .ok (.aload_n 0, 1) := by decide +kernel
theorem dL_law_436 : decode cL_law 436 = .ok (.iload_n 3, 1) := by decide +kernel
theorem dL_law_437 : decode cL_law 437 = .ok (.iconst 1, 1) := by decide +kernel
theorem dL_law_438 : decode cL_law 438 = .ok (.iadd, 1) := by decide +kernel
theorem dL_law_439 : decode cL_law 439 = .ok (.iaload, 1) := by decide +kernel
theorem dL_law_440 : decode cL_law 440 = .ok (.invokevirtual 63, 3) := by decide +kernel
theorem dL_law_443 : decode cL_law 443 = .ok (.if_icmp .eq 5, 3) := by decide +kernel
theorem dL_law_446 : decode cL_law 446 = .ok (.iconst 0, 1) := by decide +kernel
theorem dL_law_447 : decode cL_law 447 = .ok (.ireturn, 1) := by decide +kernel
theorem dL_law_448 : decode cL_law 448 = .ok (.iinc 3 3, 3) := by decide +kernel
theorem dL_law_451 : decode cL_law 451 = .ok (.goto (-433), 3) := by decide +kernel
theorem dL_law_454 : decode cL_law 454 = .ok (.iconst 1, 1) := by decide +kernel
theorem dL_law_455 : decode cL_law 455 = .ok (.ireturn, 1) := by decide +kernel
end
section
/-! THE BASE OF ALL CONTRACTS HERE: a world goes in, a world comes out; the callee gets the whole world. -/
def gPre (D : va_G) (cl : List vw_C) (tys : List (ClassId × FieldType)) (ws : va_W) (sz : Nat) (U : State) : Prop :=
  U.heap.size = sz ∧ va_P D cl ws U.heap ∧ va_K D cl tys U ∧ va_D (fun _ => True) ws
def gB (D : va_G) (cl : List vw_C) (tys : List (ClassId × FieldType)) (A : Nat → Prop) (w : va_W) (t : State) : Prop :=
  va_P D cl w t.heap ∧ va_K D cl tys t ∧ va_D A w
abbrev gMi (l : Launch) (y : MethodName) (wy : List Cond) (rm : Room) (D : va_G) (cl : List vw_C) (tys : List (ClassId × FieldType)) (av : List Value) (ws : va_W) (sz : Nat) (post : Int32 → va_W → Prop) (mc ms : Nat) : Prop :=
  Met l y wy rm (va_Pc av (gPre D cl tys ws sz)) (va_Qi post (gB D cl tys (va_A ws sz)) (va_A ws sz)) mc ms (va_A ws sz)
abbrev gMv (l : Launch) (y : MethodName) (wy : List Cond) (rm : Room) (D : va_G) (cl : List vw_C) (tys : List (ClassId × FieldType)) (av : List Value) (ws : va_W) (sz : Nat) (post : va_W → Prop) (mc ms : Nat) : Prop :=
  Met l y wy rm (va_Pc av (gPre D cl tys ws sz)) (va_Qv post (gB D cl tys (va_A ws sz)) (va_A ws sz)) mc ms (va_A ws sz)
theorem g_blind {D : va_G} {cl : List vw_C} {tys : List (ClassId × FieldType)} {av : List Value} {ws : va_W} {sz : Nat} : FrameBlind (va_Pc av (gPre D cl tys ws sz)) := by
  intro a U g mk q
  obtain ⟨q0, q1, qP, qK, qD⟩ := q
  exact ⟨q0, q1, qP, va_K.moved (u := U) (U := U.calling g mk a) (Vm.Alike.refl U.vm) qK, qD⟩
/-- what a method of this form starts from -/
def gIn (p : Program) (s : State) (m : MethodId) (meth : Method) (c : Code) (A : Nat → Prop) (y : MethodName) (wy : List Cond) (cc : ByteArray) (maxL : Nat) (ret : Option FieldType) (args : Array Value) (D : va_G) (cl : List vw_C) (tys : List (ClassId × FieldType)) (ws : va_W) : Prop :=
  p.tables.exec = Jvm.exec ∧ c.code = cc ∧ meth.sig.returnType = ret ∧ c.maxLocals = maxL ∧ s.vm.findClass y.cls = some m.cls ∧ (∀ w ∈ wy, w.before args s = true) ∧ meth.locks = false ∧ meth.name = y.name ∧ (∀ q : Nat, s.heap.size ≤ q → A q) ∧ va_K D cl tys s ∧ va_P D cl ws s.heap ∧ va_D A ws ∧ va_S A s.heap s.heap []
theorem g_of {l : Launch} {y : MethodName} {wy wy' : List Cond} {rm : Room} {D : va_G} {cl : List vw_C} {tys : List (ClassId × FieldType)} {av : List Value} {ws : va_W} {sz : Nat} {Qc : (Nat → Prop) → Array Value → State → Outcome → State → Prop} {mc ms : Nat} {cc : ByteArray} {maxL : Nat} {ret : Option FieldType}
    (hy : plainName y.cls = true) (hw : wy = Cond.code y cc maxL ret :: wy') (hlen : (lg_sl av).length ≤ maxL)
    (body : ∀ (p : Program) (e : Env) (s : State) (m : MethodId) (below : List Frame) (meth : Method) (c : Code) (A : Nat → Prop) (ls : Array Slot), gIn p s m meth c A y wy cc maxL ret av.toArray D cl tys ws → lv_has ls maxL (lv_args 0 av) →
      W p l e rm s m av.toArray below meth c s.heap [] 0 0 (MQ below (Qc A) av.toArray s mc ms A) (F0 m 0 ls [])) :
    Met l y wy rm (va_Pc av (gPre D cl tys ws sz)) (Qc (va_A ws sz)) mc ms (va_A ws sz) := by
  refine Met.ofW (cc := cc) (maxL := maxL) (ret := ret) hy hw ?_
  intro p e s m args below meth c s₁ B hml hv
  obtain ⟨rfl, hsz, hP, hK, hD0⟩ := hv
  subst hsz
  have hD := hD0.self (sz := s.heap.size)
  have hA : ∀ q : Nat, s.heap.size ≤ q → va_A ws s.heap.size q := fun q h => Or.inr h
  rw [lg_entry_eq]
  exact body p e s m below meth c _ _ ⟨B.exec, B.bytes, B.returns, hml, findClass_of_methodNamed B.named, atoms_spec (ws := wy) B.pre, B.notSynchronized, (name_of_methodNamed B.named B.method).1, hA, hK, hP, hD, va_S.rf⟩ (lv_entry av (n := maxL) hlen)
section GRET
variable {p : Program} {l : Launch} {e : Env} {R : Room} {s : State} {m : MethodId} {args : Array Value} {below : List Frame} {meth : Method} {c : Code} {H : Heap} {locs : List Loc} {cells slots : Nat}
variable {D : va_G} {cl : List vw_C} {tys : List (ClassId × FieldType)} {A : Nat → Prop} {w : va_W} {cc : ByteArray} {pc : Nat} {ls : Array Slot} {mc ms : Nat}
theorem g_iret {post : Int32 → va_W → Prop} {v : Int32} (hexec : p.tables.exec = Jvm.exec) (hb : c.code = cc) (hr : meth.sig.returnType = some .int) (hlocks : meth.locks = false) (hc : cells ≤ mc) (hs : slots ≤ ms) (hK : va_K D cl tys s) (hP : va_P D cl w H) (hD : va_D A w) (hS : va_S A s.heap H locs) (hdg : decode cc pc = .ok (.ireturn, 1)) (hpost : post v w) :
    W p l e R s m args below meth c H locs cells slots (MQ below (va_Qi post (gB D cl tys A) A) args s mc ms A) (F0 m pc ls [.int v]) := by
  refine W.widen hc hs ?_
  exact W.iret (v := v) hexec hb hr (fun t ht hW => ⟨⟨v, w, rfl, hpost, by rw [ht]; exact hP, va_K.moved hW.alike hK, hD⟩, hS.F ht⟩) hS.2.2 hdg
theorem g_zret {post : Int32 → va_W → Prop} {v : Int32} (hexec : p.tables.exec = Jvm.exec) (hb : c.code = cc) (hr : meth.sig.returnType = some .boolean) (hlocks : meth.locks = false) (hv : v = 0 ∨ v = 1) (hc : cells ≤ mc) (hs : slots ≤ ms) (hK : va_K D cl tys s) (hP : va_P D cl w H) (hD : va_D A w) (hS : va_S A s.heap H locs) (hdg : decode cc pc = .ok (.ireturn, 1)) (hpost : post v w) :
    W p l e R s m args below meth c H locs cells slots (MQ below (va_Qi post (gB D cl tys A) A) args s mc ms A) (F0 m pc ls [.int v]) := by
  refine W.widen hc hs ?_
  exact W.zret (v := v) hexec hb hr (by rcases hv with rfl | rfl <;> rfl) (fun t ht hW => ⟨⟨v, w, rfl, hpost, by rw [ht]; exact hP, va_K.moved hW.alike hK, hD⟩, hS.F ht⟩) hS.2.2 hdg
theorem g_vret {post : va_W → Prop} (hexec : p.tables.exec = Jvm.exec) (hb : c.code = cc) (hr : meth.sig.returnType = none) (hlocks : meth.locks = false) (hc : cells ≤ mc) (hs : slots ≤ ms) (hK : va_K D cl tys s) (hP : va_P D cl w H) (hD : va_D A w) (hS : va_S A s.heap H locs) (hdg : decode cc pc = .ok (.return_, 1)) (hpost : post w) :
    W p l e R s m args below meth c H locs cells slots (MQ below (va_Qv post (gB D cl tys A) A) args s mc ms A) (F0 m pc ls []) := by
  refine W.widen hc hs ?_
  exact W.vret hexec hb hr (fun t ht hW => ⟨⟨w, rfl, hpost, by rw [ht]; exact hP, va_K.moved hW.alike hK, hD⟩, hS.F ht⟩) hS.2.2 hdg
end GRET
theorem g_free {A : Nat → Prop} {ws : va_W} {H0 H : Heap} {locs : List Loc} (hD : va_D A ws) (hS : va_S A H0 H locs) (hA : ∀ q : Nat, H0.size ≤ q → A q) : ∀ q : Nat, va_A ws H.size q → A q := by
  intro q h
  rcases h with ⟨k, e, hk⟩ | h
  · exact hD.2 k _ hk
  · exact hA q (Nat.le_trans hS.1 h)
/-- a callee got the part Y of the world; what it gives back stands beside the rest -/
theorem g_frame {A : Nat → Prop} {D : va_G} {cl : List vw_C} {X Y Y1 : va_W} {H H1 : Heap} (hP : va_P D cl (X ++ Y) H) (hD : va_D A (X ++ Y)) (hF : ∀ q : Nat, va_A Y H.size q → A q) (hk : ∀ q : Nat, q < H.size → ¬ va_A Y H.size q → H1[q]? = H[q]?) (hP1 : va_P D cl Y1 H1) (hD1 : va_D (va_A Y H.size) Y1) : va_P D cl (X ++ Y1) H1 ∧ va_D A (X ++ Y1) := by
  have hx : ∀ (k : Nat) (q : Nat × va_E), X[k]? = some q → (X ++ Y)[k]? = some q := fun k q h => by
    rw [List.getElem?_append_left (List.getElem?_eq_some_iff.mp h).1]; exact h
  have hy : ∀ (k : Nat) (q : Nat × va_E), Y[k]? = some q → (X ++ Y)[X.length + k]? = some q := fun k q h => by
    rw [List.getElem?_append_right (by omega), Nat.add_sub_cancel_left]; exact h
  have hPX : va_P D cl X H := fun k q h => hP k q (hx k q h)
  have hna : ∀ (k : Nat) (q : Nat × va_E), X[k]? = some q → ¬ va_A Y H.size q.1 := by
    intro k q h hq
    rcases hq with ⟨j, e, hj⟩ | hq
    · have := hD.1 k (X.length + j) _ _ (hx k q h) (hy j _ hj) rfl
      have := (List.getElem?_eq_some_iff.mp h).1
      omega
    · have := (hPX k q h).lt
      omega
  refine ⟨(hPX.kept (fun k q h => hk q.1 (hPX k q h).lt (hna k q h))).app hP1, va_D.app ⟨fun i j p q hi hj => hD.1 i j p q (hx i p hi) (hx j q hj), fun k q h => hD.2 k q (hx k q h)⟩ (hD1.weaken (fun _ _ _ h => hF _ h)) ?_⟩
  intro i j p q hi hj he
  exact hna i p hi (by rw [he]; exact hD1.2 j q hj)
section GCALL
variable {p : Program} {l : Launch} {e : Env} {R : Room} {s : State} {m : MethodId} {args : Array Value} {below : List Frame} {meth : Method} {c : Code} {H : Heap} {locs : List Loc} {cells slots : Nat} {Q : State → Prop}
variable {pc : Nat} {ls : Array Slot} {rest st0 : List Value} {a : Array Value} {A : Nat → Prop} {H0 : Heap} {mc ms : Nat}
variable {D : va_G} {cl : List vw_C} {tys : List (ClassId × FieldType)} {ws : va_W}
theorem g_calli {post : Int32 → va_W → Prop} (hr : va_Run p l e R s m args below meth c H locs cells slots mc ms (F0 m pc ls st0) rest (va_Qi post (gB D cl tys (va_A ws H.size)) (va_A ws H.size) a) (va_A ws H.size)) (hD : va_D A ws) (hS : va_S A H0 H locs) (hA : ∀ q : Nat, H0.size ≤ q → A q)
    (kk : ∀ (r : Int32) (w : va_W) (H1 : Heap) (locs1 : List Loc), post r w → va_P D cl w H1 → va_D A w → va_S A H0 H1 locs1 → W p l e R s m args below meth c H1 locs1 (cells + mc) (slots + ms) Q (F0 m (pc + 3) ls (.int r :: rest))) : W p l e R s m args below meth c H locs cells slots Q (F0 m pc ls st0) := by
  have hF := g_free hD hS hA
  refine va_calli hr hS (fun q _ h => hF q h) hF (fun r w t H1 locs1 ht hvm hw hB hz1 hk1 hS1 => ?_)
  obtain ⟨hP1, hK1, hD1⟩ := hB
  rw [ht] at hP1
  exact kk r w H1 locs1 hw hP1 (hD1.weaken (fun _ _ _ h => hF _ h)) hS1
theorem g_callv {post : va_W → Prop} (hr : va_Run p l e R s m args below meth c H locs cells slots mc ms (F0 m pc ls st0) rest (va_Qv post (gB D cl tys (va_A ws H.size)) (va_A ws H.size) a) (va_A ws H.size)) (hD : va_D A ws) (hS : va_S A H0 H locs) (hA : ∀ q : Nat, H0.size ≤ q → A q)
    (kk : ∀ (w : va_W) (H1 : Heap) (locs1 : List Loc), post w → va_P D cl w H1 → va_D A w → va_S A H0 H1 locs1 → W p l e R s m args below meth c H1 locs1 (cells + mc) (slots + ms) Q (F0 m (pc + 3) ls rest)) : W p l e R s m args below meth c H locs cells slots Q (F0 m pc ls st0) := by
  have hF := g_free hD hS hA
  refine va_callv hr hS (fun q _ h => hF q h) hF (fun w t H1 locs1 ht hvm hw hB hz1 hk1 hS1 => ?_)
  obtain ⟨hP1, hK1, hD1⟩ := hB
  rw [ht] at hP1
  exact kk w H1 locs1 hw hP1 (hD1.weaken (fun _ _ _ h => hF _ h)) hS1
/-- the callee got the part Y alone -/
theorem g_callvF {X Y : va_W} {post : va_W → Prop} (hr : va_Run p l e R s m args below meth c H locs cells slots mc ms (F0 m pc ls st0) rest (va_Qv post (gB D cl tys (va_A Y H.size)) (va_A Y H.size) a) (va_A Y H.size)) (hP : va_P D cl (X ++ Y) H) (hD : va_D A (X ++ Y)) (hS : va_S A H0 H locs) (hA : ∀ q : Nat, H0.size ≤ q → A q)
    (kk : ∀ (w : va_W) (H1 : Heap) (locs1 : List Loc), post w → va_P D cl (X ++ w) H1 → va_D A (X ++ w) → va_S A H0 H1 locs1 → W p l e R s m args below meth c H1 locs1 (cells + mc) (slots + ms) Q (F0 m (pc + 3) ls rest)) : W p l e R s m args below meth c H locs cells slots Q (F0 m pc ls st0) := by
  have hF : ∀ q : Nat, va_A Y H.size q → A q := fun q h => by
    rcases h with ⟨k, x, hk⟩ | h
    · exact hD.2 (X.length + k) (q, x) (by rw [List.getElem?_append_right (by omega), Nat.add_sub_cancel_left]; exact hk)
    · exact hA q (Nat.le_trans hS.1 h)
  refine va_callv hr hS (fun q _ h => hF q h) hF (fun w t H1 locs1 ht hvm hw hB hz1 hk1 hS1 => ?_)
  obtain ⟨hP1, hK1, hD1⟩ := hB
  rw [ht] at hP1
  obtain ⟨hP2, hD2⟩ := g_frame hP hD hF hk1 hP1 hD1
  exact kk w H1 locs1 hw hP2 hD2 hS1
end GCALL
theorem g_preV {s : State} {H : Heap} {D : va_G} {cl : List vw_C} {tys : List (ClassId × FieldType)} {A : Nat → Prop} {ws : va_W} {a q0 ci : Nat} {q : vw_C} {fs As : List Value} (hK : va_K D cl tys s) (hP : va_P D cl ws H) (hD : va_D A ws) (hc : cl[ci]? = some q) (he : ws[q0]? = some (a, .inr (ci, fs))) : PreV s H q.1 a (va_Pc (.ref a :: As) (gPre D cl tys ws H.size)) As :=
  ⟨g_blind, va_recv hK hP hc he, fun U hU hW => ⟨rfl, by rw [hU], by rw [hU]; exact hP, va_K.moved hW.alike hK, hD.weaken (fun _ _ _ _ => trivial)⟩⟩
theorem g_preS {s : State} {H : Heap} {D : va_G} {cl : List vw_C} {tys : List (ClassId × FieldType)} {A : Nat → Prop} {ws : va_W} {As : List Value} (hK : va_K D cl tys s) (hP : va_P D cl ws H) (hD : va_D A ws) : PreS s H (va_Pc As (gPre D cl tys ws H.size)) As :=
  ⟨g_blind, fun U hU hW => ⟨rfl, by rw [hU], by rw [hU]; exact hP, va_K.moved hW.alike hK, hD.weaken (fun _ _ _ _ => trivial)⟩⟩
theorem g_part {D : va_G} {cl : List vw_C} {A : Nat → Prop} {X Y : va_W} {H : Heap} (hP : va_P D cl (X ++ Y) H) (hD : va_D A (X ++ Y)) : va_P D cl Y H ∧ va_D A Y := by
  have hy : ∀ (k : Nat) (q : Nat × va_E), Y[k]? = some q → (X ++ Y)[X.length + k]? = some q := fun k q h => by
    rw [List.getElem?_append_right (by omega), Nat.add_sub_cancel_left]; exact h
  exact ⟨fun k q h => hP _ q (hy k q h), fun i j p q hi hj h => by have := hD.1 _ _ p q (hy i p hi) (hy j q hj) h; omega, fun k q h => hD.2 _ q (hy k q h)⟩
theorem g_swap {D : va_G} {cl : List vw_C} {A : Nat → Prop} {X Y : va_W} {H : Heap} (hP : va_P D cl (X ++ Y) H) (hD : va_D A (X ++ Y)) : va_P D cl (Y ++ X) H ∧ va_D A (Y ++ X) :=
  ⟨va_P.swap (a := []) hP, va_D.swap (a := []) hD⟩
/-- array classes are known by their names -/
theorem g_RA {U : State} {c1 c2 : ClassId} {ty : FieldType} (h1 : va_RA U c1 ty) (h2 : va_RA U c2 ty) : c1 = c2 := by
  cases ty with
  | object C =>
    obtain ⟨_, _, _, _, _, g1⟩ := h1
    obtain ⟨_, _, _, _, _, g2⟩ := h2
    exact Option.some.inj (g1.symm.trans g2)
  | _ => exact Option.some.inj (Eq.trans (Eq.symm h1) h2)
section GNEW
variable {p : Program} {l : Launch} {e : Env} {R : Room} {s : State} {m : MethodId} {args : Array Value} {below : List Frame} {meth : Method} {c : Code} {H : Heap} {locs : List Loc} {cells slots : Nat} {Q : State → Prop}
variable {cc : ByteArray} {pc : Nat} {ls : Array Slot} {rest : List Value} {D : va_G} {cl : List vw_C} {A : Nat → Prop} {a : Nat} {tys : List (ClassId × FieldType)} {ws : va_W} {H0 : Heap}
theorem g_newa (hexec : p.tables.exec = Jvm.exec) (hb : c.code = cc) {atype : ArrayType} (harr : (Cond.arrayClass (newarray.typeOf atype)).before args s = true) {ty : FieldType} (hty : newarray.typeOf atype = ty) (hK : va_K D cl tys s) (hP : va_P D cl ws H) (hD : va_D A ws) (hS : va_S A H0 H locs) (hA : ∀ q, H0.size ≤ q → A q)
    (t0 : Nat) {cI : ClassId} (ht : tys[t0]? = some (cI, ty)) {n : Int32} {N' : Nat} {a0 : vp_A} (ha : ∀ cA : ClassId, vp_cell cA a0 = arrV cA N' (fun _ => defaultValue ty)) (hn : ¬ n < 0) (hN : n.toNatClampNeg = N') (hbytes : N' * componentBytes ty ≤ 536870912) (hcells : cells + 1 ≤ R.cells) (hslots : slots + N' ≤ R.slots) (hdg : decode cc pc = .ok (.newarray atype, 2))
    (kk : ∀ (q : Nat) (H1 : Heap), va_P D cl (ws ++ [(q, .inl (cI, a0))]) H1 → va_D A (ws ++ [(q, .inl (cI, a0))]) → va_S A H0 H1 locs →
      W p l e R s m args below meth c H1 locs (cells + 1) (slots + N') Q (F0 m (pc + 2) ls (.ref q :: rest))) : W p l e R s m args below meth c H locs cells slots Q (F0 m pc ls (.int n :: rest)) := by
  refine va_newa hexec hb harr hty hK hP hD hS hA ha hn hN hbytes hcells hslots hdg (fun q cA H1 hK1 hP1 hD1 hS1 => ?_)
  have hc : cA = cI := g_RA (hK1.2 tys.length (cA, ty) (by simp)).2 (hK.2 t0 _ ht).2
  subst hc
  exact kk q H1 hP1 hD1 hS1
theorem g_newq (hexec : p.tables.exec = Jvm.exec) (hb : c.code = cc) {own C : String} {index : Nat} (hown : s.vm.findClass own = some m.cls) (hclink : (Cond.classLink own index C).before args s = true) (hover : va_AO C s) (hK : va_K D cl tys s) (hP : va_P D cl ws H) (hD : va_D A ws) (hS : va_S A H0 H locs) (hA : ∀ q, H0.size ≤ q → A q)
    (t0 : Nat) {cI : ClassId} (ht : tys[t0]? = some (cI, .object C)) {n : Int32} {N' : Nat} (hn : ¬ n < 0) (hN : n.toNatClampNeg = N') (hbytes : N' * 4 ≤ 536870912) (hcells : cells + 1 ≤ R.cells) (hslots : slots + N' ≤ R.slots) (hdg : decode cc pc = .ok (.anewarray index, 3))
    (kk : ∀ (q : Nat) (H1 : Heap), va_P D cl (ws ++ [(q, .inl (cI, N', .inr (.inr (.inr (.inr (fun _ => none))))))]) H1 → va_D A (ws ++ [(q, .inl (cI, N', .inr (.inr (.inr (.inr (fun _ => none))))))]) → va_S A H0 H1 locs →
      W p l e R s m args below meth c H1 locs (cells + 1) (slots + N') Q (F0 m (pc + 3) ls (.ref q :: rest))) : W p l e R s m args below meth c H locs cells slots Q (F0 m pc ls (.int n :: rest)) := by
  refine va_newq hexec hb hown hclink hover hK hP hD hS hA hn hN hbytes hcells hslots hdg (fun q cA H1 hK1 hP1 hD1 hS1 => ?_)
  have hc : cA = cI := g_RA (hK1.2 tys.length (cA, .object C) (by simp)).2 (hK.2 t0 _ ht).2
  subst hc
  exact kk q H1 hP1 hD1 hS1
end GNEW
/-- the same with a premise Z of the tables beside the world (for constructors that make arrays of objects, or call constructors of nest mates) -/
theorem g_ofZ {l : Launch} {y : MethodName} {wy wy' : List Cond} {rm : Room} {D : va_G} {cl : List vw_C} {tys : List (ClassId × FieldType)} {av : List Value} {ws : va_W} {sz : Nat} {Z : State → Prop} {Qc : (Nat → Prop) → Array Value → State → Outcome → State → Prop} {mc ms : Nat} {cc : ByteArray} {maxL : Nat} {ret : Option FieldType}
    (hy : plainName y.cls = true) (hw : wy = Cond.code y cc maxL ret :: wy') (hlen : (lg_sl av).length ≤ maxL)
    (body : ∀ (p : Program) (e : Env) (s : State) (m : MethodId) (below : List Frame) (meth : Method) (c : Code) (A : Nat → Prop) (ls : Array Slot), gIn p s m meth c A y wy cc maxL ret av.toArray D cl tys ws → Z s → lv_has ls maxL (lv_args 0 av) →
      W p l e rm s m av.toArray below meth c s.heap [] 0 0 (MQ below (Qc A) av.toArray s mc ms A) (F0 m 0 ls [])) :
    Met l y wy rm (va_Pc av (fun U => gPre D cl tys ws sz U ∧ Z U)) (Qc (va_A ws sz)) mc ms (va_A ws sz) := by
  refine Met.ofW (cc := cc) (maxL := maxL) (ret := ret) hy hw ?_
  intro p e s m args below meth c s₁ B hml hv
  obtain ⟨rfl, ⟨hsz, hP, hK, hD0⟩, hZ⟩ := hv
  subst hsz
  have hD := hD0.self (sz := s.heap.size)
  have hA : ∀ q : Nat, s.heap.size ≤ q → va_A ws s.heap.size q := fun q h => Or.inr h
  rw [lg_entry_eq]
  exact body p e s m below meth c _ _ ⟨B.exec, B.bytes, B.returns, hml, findClass_of_methodNamed B.named, atoms_spec (ws := wy) B.pre, B.notSynchronized, (name_of_methodNamed B.named B.method).1, hA, hK, hP, hD, va_S.rf⟩ hZ (lv_entry av (n := maxL) hlen)
theorem g_preZ {s : State} {H : Heap} {D : va_G} {cl : List vw_C} {tys : List (ClassId × FieldType)} {A : Nat → Prop} {ws : va_W} {As : List Value} {Z : State → Prop} (hb : ∀ (U : State) (g : JFrame) (mk : MethodId) (a : Array Value), Z U → Z (U.calling g mk a)) (hw : ∀ U : State, s.WarmedH U.vm → Z U) (hK : va_K D cl tys s) (hP : va_P D cl ws H) (hD : va_D A ws) : PreS s H (va_Pc As (fun U => gPre D cl tys ws H.size U ∧ Z U)) As := by
  refine ⟨fun a U g mk q => ?_, fun U hU hW => ⟨rfl, ⟨by rw [hU], by rw [hU]; exact hP, va_K.moved hW.alike hK, hD.weaken (fun _ _ _ _ => trivial)⟩, hw U hW⟩⟩
  obtain ⟨q0, ⟨q1, qP, qK, qD⟩, qZ⟩ := q
  exact ⟨q0, ⟨q1, qP, va_K.moved (u := U) (U := U.calling g mk a) (Vm.Alike.refl U.vm) qK, qD⟩, hb U g mk a qZ⟩
end
section
/-! Pairs of cells, n of them, side by side in a world: an object and its array -/
def g2 (n : Nat) (f g : Nat → Nat × va_E) : va_W := (List.range (2 * n)).map (fun k => if k % 2 = 0 then f (k / 2) else g (k / 2))
theorem g2_len (n : Nat) (f g : Nat → Nat × va_E) : (g2 n f g).length = 2 * n := by simp [g2]
theorem g2_at {n : Nat} {f g : Nat → Nat × va_E} {r : va_W} {k : Nat} (h : k < 2 * n) : (g2 n f g ++ r)[k]? = some (if k % 2 = 0 then f (k / 2) else g (k / 2)) := by
  rw [List.getElem?_append_left (by rw [g2_len]; exact h)]
  simp [g2, h]
theorem g2_get0 {n : Nat} {f g : Nat → Nat × va_E} {r : va_W} {i : Nat} (h : i < n) : (g2 n f g ++ r)[2 * i]? = some (f i) := by
  rw [g2_at (by omega), if_pos (by omega), show 2 * i / 2 = i by omega]
theorem g2_get1 {n : Nat} {f g : Nat → Nat × va_E} {r : va_W} {i : Nat} (h : i < n) : (g2 n f g ++ r)[2 * i + 1]? = some (g i) := by
  rw [g2_at (by omega), if_neg (by omega), show (2 * i + 1) / 2 = i by omega]
theorem g2_skip {n : Nat} {f g : Nat → Nat × va_E} {r : va_W} {k j : Nat} (hj : j = 2 * n + k) : (g2 n f g ++ r)[j]? = r[k]? := by
  rw [List.getElem?_append_right (by rw [g2_len]; omega), g2_len, hj, Nat.add_sub_cancel_left]
theorem g2_set0 {n : Nat} {f g : Nat → Nat × va_E} {r : va_W} {i : Nat} {x : Nat × va_E} (h : i < n) : (g2 n f g ++ r).set (2 * i) x = g2 n (va_up f i x) g ++ r := by
  rw [List.set_append_left _ _ (by rw [g2_len]; omega)]
  congr 1
  apply List.ext_getElem?
  intro j
  by_cases hj : j = 2 * i
  · subst hj
    rw [List.getElem?_set_self (by rw [g2_len]; omega)]
    simp [g2, va_up, show 2 * i < 2 * n by omega]
  · rw [List.getElem?_set_ne (Ne.symm hj)]
    by_cases hl : j < 2 * n
    · simp only [g2, List.getElem?_map, List.getElem?_range hl, Option.map_some]
      by_cases hm : j % 2 = 0
      · rw [if_pos hm, if_pos hm, va_up_ne _ _ (by omega)]
      · rw [if_neg hm, if_neg hm]
    · rw [List.getElem?_eq_none (by rw [g2_len]; omega), List.getElem?_eq_none (by rw [g2_len]; omega)]
theorem g2_set1 {n : Nat} {f g : Nat → Nat × va_E} {r : va_W} {i : Nat} {x : Nat × va_E} (h : i < n) : (g2 n f g ++ r).set (2 * i + 1) x = g2 n f (va_up g i x) ++ r := by
  rw [List.set_append_left _ _ (by rw [g2_len]; omega)]
  congr 1
  apply List.ext_getElem?
  intro j
  by_cases hj : j = 2 * i + 1
  · subst hj
    rw [List.getElem?_set_self (by rw [g2_len]; omega)]
    simp only [g2, List.getElem?_map, List.getElem?_range (show 2 * i + 1 < 2 * n by omega), Option.map_some]
    rw [if_neg (by omega), show (2 * i + 1) / 2 = i by omega, va_up_self]
  · rw [List.getElem?_set_ne (Ne.symm hj)]
    by_cases hl : j < 2 * n
    · simp only [g2, List.getElem?_map, List.getElem?_range hl, Option.map_some]
      by_cases hm : j % 2 = 0
      · rw [if_pos hm, if_pos hm]
      · rw [if_neg hm, if_neg hm, va_up_ne _ _ (by omega)]
    · rw [List.getElem?_eq_none (by rw [g2_len]; omega), List.getElem?_eq_none (by rw [g2_len]; omega)]
theorem g2_setR {n : Nat} {f g : Nat → Nat × va_E} {r : va_W} {k j : Nat} {x : Nat × va_E} (hj : j = 2 * n + k) : (g2 n f g ++ r).set j x = g2 n f g ++ r.set k x := by
  rw [List.set_append_right _ _ (by rw [g2_len]; omega), g2_len, hj, Nat.add_sub_cancel_left]
theorem g2_0 (f g : Nat → Nat × va_E) : g2 0 f g = [] := rfl
theorem g2_congr {n : Nat} {f g f' g' : Nat → Nat × va_E} (h : ∀ i, i < n → f i = f' i ∧ g i = g' i) : g2 n f g = g2 n f' g' := by
  unfold g2
  apply List.map_congr_left
  intro k hk
  have hk := List.mem_range.mp hk
  rw [(h (k / 2) (by omega)).1, (h (k / 2) (by omega)).2]
theorem g2_succ (n : Nat) (f g : Nat → Nat × va_E) : g2 (n + 1) f g = g2 n f g ++ [f n, g n] := by
  unfold g2
  rw [show 2 * (n + 1) = 2 * n + 1 + 1 by omega, List.range_succ, List.range_succ]
  simp only [List.map_append, List.map_cons, List.map_nil, List.append_assoc, List.cons_append, List.nil_append]
  rw [if_pos (show 2 * n % 2 = 0 by omega), if_neg (show ¬ (2 * n + 1) % 2 = 0 by omega), show 2 * n / 2 = n by omega, show (2 * n + 1) / 2 = n by omega]
theorem g2_push {n : Nat} {f g : Nat → Nat × va_E} {x y : Nat × va_E} : g2 n f g ++ [x, y] = g2 (n + 1) (va_up f n x) (va_up g n y) := by
  rw [g2_succ, va_up_self, va_up_self]
  congr 1
  exact g2_congr (fun i hi => ⟨(va_up_ne _ _ (by omega)).symm, (va_up_ne _ _ (by omega)).symm⟩)
end
section
/-! WHAT A STATE IS. K: the classes of int[], boolean[], Row[], Party[]. -/
abbrev gCl : Type := ClassId × ClassId × ClassId × ClassId
abbrev gT (K : gCl) : List (ClassId × FieldType) := [(K.1, .int), (K.2.1, .boolean), (K.2.2.1, .object RX1), (K.2.2.2, .object RX0)]
abbrev gArr (cI : ClassId) (n : Nat) (f : Nat → Int32) : va_E := .inl (cI, n, .inl f)
abbrev gRef (cI : ClassId) (n : Nat) (f : Nat → Option Nat) : va_E := .inl (cI, n, .inr (.inr (.inr (.inr f))))
abbrev gRow (oa : Nat) (z sd ho bk : Int32) : va_E := .inr (1, [.ref oa, .int z, .int sd, .int ho, .int bk])
abbrev gPar (na : Nat) (li sz mo : Int32) : va_E := .inr (0, [.ref na, .int li, .int sz, .int mo])
abbrev gObj (hr hc hq co : Nat) (bk wt mh fl : Int32) : va_E := .inr (2, [.ref hr, .ref hc, .ref hq, .ref co, .int bk, .int wt, .int mh, .int fl])
def gRf (n : Nat) (ra : Nat → Nat) : Nat → Option Nat := fun i => if i < n then some (ra i) else none
/-- a hall: rows rv (size, side by side, holds, backs) with owners ow; parties pv (listed, size, mode) with numbers nm; the coming one is co, those of the queue qu -/
def gsW (K : gCl) (h0 hr hc hq : Nat) (ra oa pa na : Nat → Nat) (rv : Nat → Int32 × Int32 × Int32 × Int32) (ow : Nat → Nat → Int32) (pv : Nat → Int32 × Int32 × Int32) (nm : Nat → Nat → Int32) (cn : Nat → Int32) (co : Nat) (qu : Nat → Nat) (bk wt mh fl : Int32) : va_W :=
  (h0, gObj hr hc hq (pa co) bk wt mh fl) :: (hr, gRef K.2.2.1 10 (gRf 10 ra)) :: (hc, gArr K.2.1 40 cn) :: (hq, gRef K.2.2.2 8 (gRf 8 (fun k => pa (qu k)))) ::
    (g2 10 (fun i => (ra i, gRow (oa i) (rv i).1 (rv i).2.1 (rv i).2.2.1 (rv i).2.2.2)) (fun i => (oa i, gArr K.1 20 (ow i))) ++
      g2 9 (fun j => (pa j, gPar (na j) (pv j).1 (pv j).2.1 (pv j).2.2)) (fun j => (na j, gArr K.1 6 (nm j))))
/-- a new hall -/
def gsN (K : gCl) (h0 hr hc hq : Nat) (ra oa pa na : Nat → Nat) : va_W :=
  gsW K h0 hr hc hq ra oa pa na (fun _ => (0, 0, 0, 0)) (fun _ _ => 0) (fun _ => (0, 0, 0)) (fun _ _ => 0) (fun _ => 0) 0 (fun k => k + 1) 0 0 0 0
section GSW
variable {K : gCl} {h0 hr hc hq : Nat} {ra oa pa na : Nat → Nat} {rv : Nat → Int32 × Int32 × Int32 × Int32} {ow : Nat → Nat → Int32} {pv : Nat → Int32 × Int32 × Int32} {nm : Nat → Nat → Int32} {cn : Nat → Int32} {co : Nat} {qu : Nat → Nat} {bk wt mh fl : Int32}
theorem gsW_row {j : Nat} (hj : j < 10) : (gsW K h0 hr hc hq ra oa pa na rv ow pv nm cn co qu bk wt mh fl)[2 * j + 4]? = some (ra j, gRow (oa j) (rv j).1 (rv j).2.1 (rv j).2.2.1 (rv j).2.2.2) := by
  have h := g2_get0 (n := 10) (f := fun i => (ra i, gRow (oa i) (rv i).1 (rv i).2.1 (rv i).2.2.1 (rv i).2.2.2)) (g := fun i => (oa i, gArr K.1 20 (ow i))) (r := g2 9 (fun j => (pa j, gPar (na j) (pv j).1 (pv j).2.1 (pv j).2.2)) (fun j => (na j, gArr K.1 6 (nm j)))) hj
  exact h
theorem gsW_own {j : Nat} (hj : j < 10) : (gsW K h0 hr hc hq ra oa pa na rv ow pv nm cn co qu bk wt mh fl)[2 * j + 1 + 4]? = some (oa j, gArr K.1 20 (ow j)) := by
  have h := g2_get1 (n := 10) (f := fun i => (ra i, gRow (oa i) (rv i).1 (rv i).2.1 (rv i).2.2.1 (rv i).2.2.2)) (g := fun i => (oa i, gArr K.1 20 (ow i))) (r := g2 9 (fun j => (pa j, gPar (na j) (pv j).1 (pv j).2.1 (pv j).2.2)) (fun j => (na j, gArr K.1 6 (nm j)))) hj
  exact h
theorem gsW_par {j : Nat} (hj : j < 9) : (gsW K h0 hr hc hq ra oa pa na rv ow pv nm cn co qu bk wt mh fl)[2 * j + 20 + 4]? = some (pa j, gPar (na j) (pv j).1 (pv j).2.1 (pv j).2.2) := by
  have h := g2_get0 (n := 9) (f := fun j => (pa j, gPar (na j) (pv j).1 (pv j).2.1 (pv j).2.2)) (g := fun j => (na j, gArr K.1 6 (nm j))) (r := []) hj
  rw [List.append_nil] at h
  have h2 := g2_skip (n := 10) (f := fun i => (ra i, gRow (oa i) (rv i).1 (rv i).2.1 (rv i).2.2.1 (rv i).2.2.2)) (g := fun i => (oa i, gArr K.1 20 (ow i))) (r := g2 9 (fun j => (pa j, gPar (na j) (pv j).1 (pv j).2.1 (pv j).2.2)) (fun j => (na j, gArr K.1 6 (nm j)))) (j := 2 * j + 20) (k := 2 * j) (by omega)
  exact h2.trans h
theorem gsW_num {j : Nat} (hj : j < 9) : (gsW K h0 hr hc hq ra oa pa na rv ow pv nm cn co qu bk wt mh fl)[2 * j + 1 + 20 + 4]? = some (na j, gArr K.1 6 (nm j)) := by
  have h := g2_get1 (n := 9) (f := fun j => (pa j, gPar (na j) (pv j).1 (pv j).2.1 (pv j).2.2)) (g := fun j => (na j, gArr K.1 6 (nm j))) (r := []) hj
  rw [List.append_nil] at h
  have h2 := g2_skip (n := 10) (f := fun i => (ra i, gRow (oa i) (rv i).1 (rv i).2.1 (rv i).2.2.1 (rv i).2.2.2)) (g := fun i => (oa i, gArr K.1 20 (ow i))) (r := g2 9 (fun j => (pa j, gPar (na j) (pv j).1 (pv j).2.1 (pv j).2.2)) (fun j => (na j, gArr K.1 6 (nm j)))) (j := 2 * j + 1 + 20) (k := 2 * j + 1) (by omega)
  exact h2.trans h
end GSW
theorem gRf_at {n : Nat} {ra : Nat → Nat} {j : Nat} (hj : j < n) (hn : n < 2 ^ 31) : gRf n ra (nI j).toNatClampNeg = some (ra j) := by
  rw [nI_clamp (by omega)]
  simp [gRf, hj]
theorem gRf_up {n : Nat} {ra : Nat → Nat} {q : Nat} : va_up (gRf n ra) n (some q) = gRf (n + 1) (va_up ra n q) := by
  funext j
  by_cases h : j = n
  · subst h
    simp [gRf, va_up]
  · by_cases h2 : j < n
    · simp [gRf, va_up, h, h2, show j < n + 1 by omega]
    · simp [gRf, va_up, h, h2, show ¬ j < n + 1 by omega]
theorem gRf_0 (ra : Nat → Nat) : (fun _ => none) = gRf 0 ra := by
  funext j
  simp [gRf]
theorem g_ix {x : Int32} {n : Nat} {M : Int32} (hM : M.toInt = n) (h : 0 ≤ x ∧ x < M) : ∃ j : Nat, j < n ∧ x = nI j := by
  obtain ⟨h1, h2⟩ := h
  obtain ⟨j, hj, rfl⟩ := nI_of (x := x) (by rw [Int32.le_iff_toInt_le] at h1; rw [Int32.lt_iff_toInt_lt]; omega)
  rw [Int32.lt_iff_toInt_lt, nI_toInt hj, hM] at h2
  exact ⟨j, by omega, rfl⟩
/-- the model: one object, 13 arrays -/
abbrev gMob (ma : Nat → Nat) (th li bk wt mo fl wl fd : Int32) : va_E := .inr (3, [.int th, .ref (ma 1), .ref (ma 2), .ref (ma 3), .ref (ma 4), .ref (ma 5), .ref (ma 6), .ref (ma 7), .int li, .int bk, .ref (ma 8), .ref (ma 9), .ref (ma 10), .ref (ma 11), .int wt, .int mo, .int fl, .ref (ma 12), .int wl, .ref (ma 13), .int fd])
def mW (K : gCl) (ma : Nat → Nat) (th li bk wt mo fl wl fd : Int32) (op st sz ho ba se ls cn pe lt le wa ta : Nat → Int32) : va_W :=
  [(ma 0, gMob ma th li bk wt mo fl wl fd), (ma 1, gArr K.2.1 10 op), (ma 2, gArr K.2.1 10 st), (ma 3, gArr K.1 10 sz), (ma 4, gArr K.1 10 ho), (ma 5, gArr K.1 10 ba), (ma 6, gArr K.1 200 se), (ma 7, gArr K.1 6 ls), (ma 8, gArr K.2.1 40 cn), (ma 9, gArr K.1 8 pe), (ma 10, gArr K.1 48 lt), (ma 11, gArr K.1 8 le), (ma 12, gArr K.1 6 wa), (ma 13, gArr K.1 6 ta)]
def mN (K : gCl) (ma : Nat → Nat) : va_W := mW K ma 0 0 0 0 0 0 0 0 (fun _ => 0) (fun _ => 0) (fun _ => 0) (fun _ => 0) (fun _ => 0) (fun _ => 0) (fun _ => 0) (fun _ => 0) (fun _ => 0) (fun _ => 0) (fun _ => 0) (fun _ => 0) (fun _ => 0)
section GX
variable {p : Program} {l : Launch} {e : Env} {R : Room} {s : State} {m : MethodId} {args : Array Value} {below : List Frame} {meth : Method} {c : Code} {H : Heap} {locs : List Loc} {cells slots : Nat} {Q : State → Prop}
variable {cc : ByteArray} {pc : Nat} {ls : Array Slot} {rest : List Value} {D : va_G} {cl : List vw_C} {A : Nat → Prop} {a : Nat} {tys : List (ClassId × FieldType)} {ws : va_W} {H0 : Heap}
theorem g_aldq (hexec : p.tables.exec = Jvm.exec) (hb : c.code = cc) (hK : va_K D cl tys s) (hP : va_P D cl ws H) (q0 t0 : Nat) {cA : ClassId} {C : String} {n v : Nat} {f : Nat → Option Nat} (ha : ws[q0]? = some (a, .inl (cA, n, .inr (.inr (.inr (.inr f)))))) (ht : tys[t0]? = some (cA, .object C)) {i : Int32} (hin : vp_in i n) (hf : f i.toNatClampNeg = some v) (hdg : decode cc pc = .ok (.aaload, 1))
    (kk : W p l e R s m args below meth c H locs cells slots Q (F0 m (pc + 1) ls (.ref v :: rest))) : W p l e R s m args below meth c H locs cells slots Q (F0 m pc ls (.int i :: .ref a :: rest)) :=
  va_aldq hexec hb hK hP q0 t0 ha ht hin hdg (by rw [hf]; exact kk)
end GX
/-- the numbers of the comparisons -/
theorem gl_m1 : (-1 : Int32).toInt = -1 := rfl
theorem gl_0 : (0 : Int32).toInt = 0 := rfl
theorem gl_1 : (1 : Int32).toInt = 1 := rfl
theorem gl_2 : (2 : Int32).toInt = 2 := rfl
theorem gl_3 : (3 : Int32).toInt = 3 := rfl
theorem gl_5 : (5 : Int32).toInt = 5 := rfl
theorem gl_6 : (6 : Int32).toInt = 6 := rfl
theorem gl_8 : (8 : Int32).toInt = 8 := rfl
theorem gl_9 : (9 : Int32).toInt = 9 := rfl
theorem gl_10 : (10 : Int32).toInt = 10 := rfl
theorem gl_11 : (11 : Int32).toInt = 11 := rfl
theorem gl_20 : (20 : Int32).toInt = 20 := rfl
theorem gl_40 : (40 : Int32).toInt = 40 := rfl
theorem gl_60 : (60 : Int32).toInt = 60 := rfl
end
section
theorem g_is0 {P : Prop} (h : ¬ P) : ((0 : Int32) = 0 ↔ ¬ P) := ⟨fun _ => h, fun _ => rfl⟩
theorem g_is1 {P : Prop} (h : P) : ((1 : Int32) = 0 ↔ ¬ P) := ⟨fun q => absurd q (by decide), fun q => absurd h q⟩
theorem g_setself {ws : va_W} {k : Nat} {x y : Nat × va_E} (h : ws[k]? = some y) : (ws.set k x)[k]? = some x := List.getElem?_set_self (List.getElem?_eq_some_iff.mp h).1
theorem g_setne {ws : va_W} {k j : Nat} {x y : Nat × va_E} (hn : k ≠ j) (h : ws[j]? = some y) : (ws.set k x)[j]? = some y := by rw [List.getElem?_set_ne hn]; exact h
theorem g_setid {ws : va_W} {k : Nat} {x : Nat × va_E} (h : ws[k]? = some x) : ws.set k x = ws := by
  apply List.ext_getElem?
  intro j
  by_cases hj : k = j
  · subst hj
    rw [g_setself h, h]
  · rw [List.getElem?_set_ne hj]
theorem g_inc {i : Nat} : nI i + Int32.ofInt 1 = nI (i + 1) := nI_1 i
def gFill (v : Int32) (i : Nat) (f : Nat → Int32) : Nat → Int32 := fun j => if j < i then v else f j
theorem gFill_0 (v : Int32) (f : Nat → Int32) : gFill v 0 f = f := by funext j; simp [gFill]
theorem gFill_up (v : Int32) {i : Nat} (f : Nat → Int32) (hi : i < 2 ^ 31) : upd (gFill v i f) (nI i).toNatClampNeg v = gFill v (i + 1) f := by
  rw [nI_clamp hi]
  funext j
  by_cases h : j = i
  · simp [upd, gFill, h]
  · by_cases h2 : j < i
    · simp [upd, gFill, h, h2, show j < i + 1 by omega]
    · simp [upd, gFill, h, h2, show ¬ j < i + 1 by omega]
set_option maxHeartbeats 4000000 in
set_option maxRecDepth 100000 in
/-- isRow(x) -/
theorem c_isRow (l : Launch) (D : va_G) (K : gCl) (ws : va_W) (x : Int32) (sz : Nat)  : gMi l yX2_isRow wsX2_isRow ({ frames := 0, cells := 0, slots := 0, locals := 0 } : Room) D vwCl (gT K) [.int x] (ws) sz (fun r w => w = ws ∧ (r = 0 ↔ ¬ (0 ≤ x ∧ x < 10))) 0 0 := by
  refine g_of (cc := cX2_isRow) (maxL := 1) (ret := (some .boolean)) (Qc := fun A => va_Qi (fun r w => w = ws ∧ (r = 0 ↔ ¬ (0 ≤ x ∧ x < 10))) (gB D vwCl (gT K) A) A) (by decide) rfl (Nat.le_of_ble_eq_true rfl) ?_
  intro p e s m below meth c A ls I hl
  have I0 := I
  obtain ⟨hx, hb, hr, hml, hown, hts, hlocks, hnm, hA, hK, hP, hD, hS⟩ := I
  have hown : s.vm.findClass RX2 = some m.cls := hown
  have hl : lv_has ls 1 [(0, .int x)] := hl
  refine lv_iload_n hx hb dX2_isRow_0 rfl (lv_at hl 0 rfl) ?_
  refine lv_if_lt (tgt := 14) hx hb dX2_isRow_1 (by decide) (fun c1 => ?_) (fun c1 => ?_)
  · refine lv_iconst (v := 0) hx hb dX2_isRow_14 (by decide) ?_
    exact g_zret hx hb hr hlocks (by first | exact Or.inl rfl | exact Or.inr rfl) (Nat.le_of_ble_eq_true rfl) (Nat.le_of_ble_eq_true rfl) hK hP hD hS dX2_isRow_15 (⟨rfl, g_is0 (by intro h; simp only [Int32.le_iff_toInt_le, Int32.lt_iff_toInt_lt, gl_m1, gl_0, gl_1, gl_2, gl_3, gl_5, gl_6, gl_8, gl_9, gl_10, gl_11, gl_20, gl_40, gl_60] at h c1; omega)⟩)
  · refine lv_iload_n hx hb dX2_isRow_4 rfl (lv_at hl 0 rfl) ?_
    refine lv_bipush (v := 10) hx hb dX2_isRow_5 (by decide) ?_
    refine lv_icmp_ge (tgt := 14) hx hb dX2_isRow_7 (by decide) (fun c7 => ?_) (fun c7 => ?_)
    · refine lv_iconst (v := 0) hx hb dX2_isRow_14 (by decide) ?_
      exact g_zret hx hb hr hlocks (by first | exact Or.inl rfl | exact Or.inr rfl) (Nat.le_of_ble_eq_true rfl) (Nat.le_of_ble_eq_true rfl) hK hP hD hS dX2_isRow_15 (⟨rfl, g_is0 (by intro h; simp only [Int32.le_iff_toInt_le, Int32.lt_iff_toInt_lt, gl_m1, gl_0, gl_1, gl_2, gl_3, gl_5, gl_6, gl_8, gl_9, gl_10, gl_11, gl_20, gl_40, gl_60] at h c1 c7; omega)⟩)
    · refine lv_iconst (v := 1) hx hb dX2_isRow_10 (by decide) ?_
      refine lv_goto (tgt := 15) hx hb dX2_isRow_11 (by decide) ?_
      exact g_zret hx hb hr hlocks (by first | exact Or.inl rfl | exact Or.inr rfl) (Nat.le_of_ble_eq_true rfl) (Nat.le_of_ble_eq_true rfl) hK hP hD hS dX2_isRow_15 (⟨rfl, g_is1 (by simp only [Int32.le_iff_toInt_le, Int32.lt_iff_toInt_lt, gl_m1, gl_0, gl_1, gl_2, gl_3, gl_5, gl_6, gl_8, gl_9, gl_10, gl_11, gl_20, gl_40, gl_60] at c1 c7 ⊢; omega)⟩)
set_option maxHeartbeats 4000000 in
set_option maxRecDepth 100000 in
/-- isBooking(x) -/
theorem c_isBooking (l : Launch) (D : va_G) (K : gCl) (ws : va_W) (h0 hr hc hq co : Nat) (bk wt mh fl x : Int32) (sz : Nat) (he : ws[0]? = some (h0, gObj hr hc hq co bk wt mh fl)) : gMi l yX2_isBooking wsX2_isBooking ({ frames := 0, cells := 0, slots := 0, locals := 0 } : Room) D vwCl (gT K) [.ref h0, .int x] (ws) sz (fun r w => w = ws ∧ (r = 0 ↔ ¬ (0 ≤ x ∧ x < bk))) 0 0 := by
  refine g_of (cc := cX2_isBooking) (maxL := 2) (ret := (some .boolean)) (Qc := fun A => va_Qi (fun r w => w = ws ∧ (r = 0 ↔ ¬ (0 ≤ x ∧ x < bk))) (gB D vwCl (gT K) A) A) (by decide) rfl (Nat.le_of_ble_eq_true rfl) ?_
  intro p e s m below meth c A ls I hl
  have I0 := I
  obtain ⟨hx, hb, hr, hml, hown, hts, hlocks, hnm, hA, hK, hP, hD, hS⟩ := I
  have hown : s.vm.findClass RX2 = some m.cls := hown
  have hl : lv_has ls 2 [(0, .ref h0), (1, .int x)] := hl
  have hi_X2 : ∀ w ∈ u_ws RX2 TX2 8, w ∈ wsX2_isBooking := by decide +kernel
  refine lv_iload_n hx hb dX2_isBooking_0 rfl (lv_at hl 1 rfl) ?_
  refine lv_if_lt (tgt := 16) hx hb dX2_isBooking_1 (by decide) (fun c1 => ?_) (fun c1 => ?_)
  · refine lv_iconst (v := 0) hx hb dX2_isBooking_16 (by decide) ?_
    exact g_zret hx hb hr hlocks (by first | exact Or.inl rfl | exact Or.inr rfl) (Nat.le_of_ble_eq_true rfl) (Nat.le_of_ble_eq_true rfl) hK hP hD hS dX2_isBooking_17 (⟨rfl, g_is0 (by intro h; simp only [Int32.le_iff_toInt_le, Int32.lt_iff_toInt_lt, gl_m1, gl_0, gl_1, gl_2, gl_3, gl_5, gl_6, gl_8, gl_9, gl_10, gl_11, gl_20, gl_40, gl_60] at h c1; omega)⟩)
  · refine lv_iload_n hx hb dX2_isBooking_4 rfl (lv_at hl 1 rfl) ?_
    refine lv_aload_n hx hb dX2_isBooking_5 rfl (lv_at hl 0 rfl) ?_
    refine va_get (C := RX2) (T := TX2) (N := 8) (ci := 2) hx hb hts hi_X2 hown hK hP (0) (he) rfl 4 (by decide) (hts (.fieldLink RX2 66 "GroupSeats" "bookings" "I") (by decide +kernel)) (fun _ h9 => h9) rfl dX2_isBooking_6 ?_
    refine lv_icmp_ge (tgt := 16) hx hb dX2_isBooking_9 (by decide) (fun c9 => ?_) (fun c9 => ?_)
    · refine lv_iconst (v := 0) hx hb dX2_isBooking_16 (by decide) ?_
      exact g_zret hx hb hr hlocks (by first | exact Or.inl rfl | exact Or.inr rfl) (Nat.le_of_ble_eq_true rfl) (Nat.le_of_ble_eq_true rfl) hK hP hD hS dX2_isBooking_17 (⟨rfl, g_is0 (by intro h; simp only [Int32.le_iff_toInt_le, Int32.lt_iff_toInt_lt, gl_m1, gl_0, gl_1, gl_2, gl_3, gl_5, gl_6, gl_8, gl_9, gl_10, gl_11, gl_20, gl_40, gl_60] at h c1 c9; omega)⟩)
    · refine lv_iconst (v := 1) hx hb dX2_isBooking_12 (by decide) ?_
      refine lv_goto (tgt := 17) hx hb dX2_isBooking_13 (by decide) ?_
      exact g_zret hx hb hr hlocks (by first | exact Or.inl rfl | exact Or.inr rfl) (Nat.le_of_ble_eq_true rfl) (Nat.le_of_ble_eq_true rfl) hK hP hD hS dX2_isBooking_17 (⟨rfl, g_is1 (by simp only [Int32.le_iff_toInt_le, Int32.lt_iff_toInt_lt, gl_m1, gl_0, gl_1, gl_2, gl_3, gl_5, gl_6, gl_8, gl_9, gl_10, gl_11, gl_20, gl_40, gl_60] at c1 c9 ⊢; omega)⟩)
set_option maxHeartbeats 4000000 in
set_option maxRecDepth 100000 in
/-- isWaiting(x) -/
theorem c_isWaiting (l : Launch) (D : va_G) (K : gCl) (ws : va_W) (h0 hr hc hq co : Nat) (bk wt mh fl x : Int32) (sz : Nat) (he : ws[0]? = some (h0, gObj hr hc hq co bk wt mh fl)) : gMi l yX2_isWaiting wsX2_isWaiting ({ frames := 0, cells := 0, slots := 0, locals := 0 } : Room) D vwCl (gT K) [.ref h0, .int x] (ws) sz (fun r w => w = ws ∧ (r = 0 ↔ ¬ (0 ≤ x ∧ x < wt))) 0 0 := by
  refine g_of (cc := cX2_isWaiting) (maxL := 2) (ret := (some .boolean)) (Qc := fun A => va_Qi (fun r w => w = ws ∧ (r = 0 ↔ ¬ (0 ≤ x ∧ x < wt))) (gB D vwCl (gT K) A) A) (by decide) rfl (Nat.le_of_ble_eq_true rfl) ?_
  intro p e s m below meth c A ls I hl
  have I0 := I
  obtain ⟨hx, hb, hr, hml, hown, hts, hlocks, hnm, hA, hK, hP, hD, hS⟩ := I
  have hown : s.vm.findClass RX2 = some m.cls := hown
  have hl : lv_has ls 2 [(0, .ref h0), (1, .int x)] := hl
  have hi_X2 : ∀ w ∈ u_ws RX2 TX2 8, w ∈ wsX2_isWaiting := by decide +kernel
  refine lv_iload_n hx hb dX2_isWaiting_0 rfl (lv_at hl 1 rfl) ?_
  refine lv_if_lt (tgt := 16) hx hb dX2_isWaiting_1 (by decide) (fun c1 => ?_) (fun c1 => ?_)
  · refine lv_iconst (v := 0) hx hb dX2_isWaiting_16 (by decide) ?_
    exact g_zret hx hb hr hlocks (by first | exact Or.inl rfl | exact Or.inr rfl) (Nat.le_of_ble_eq_true rfl) (Nat.le_of_ble_eq_true rfl) hK hP hD hS dX2_isWaiting_17 (⟨rfl, g_is0 (by intro h; simp only [Int32.le_iff_toInt_le, Int32.lt_iff_toInt_lt, gl_m1, gl_0, gl_1, gl_2, gl_3, gl_5, gl_6, gl_8, gl_9, gl_10, gl_11, gl_20, gl_40, gl_60] at h c1; omega)⟩)
  · refine lv_iload_n hx hb dX2_isWaiting_4 rfl (lv_at hl 1 rfl) ?_
    refine lv_aload_n hx hb dX2_isWaiting_5 rfl (lv_at hl 0 rfl) ?_
    refine va_get (C := RX2) (T := TX2) (N := 8) (ci := 2) hx hb hts hi_X2 hown hK hP (0) (he) rfl 5 (by decide) (hts (.fieldLink RX2 77 "GroupSeats" "waiters" "I") (by decide +kernel)) (fun _ h9 => h9) rfl dX2_isWaiting_6 ?_
    refine lv_icmp_ge (tgt := 16) hx hb dX2_isWaiting_9 (by decide) (fun c9 => ?_) (fun c9 => ?_)
    · refine lv_iconst (v := 0) hx hb dX2_isWaiting_16 (by decide) ?_
      exact g_zret hx hb hr hlocks (by first | exact Or.inl rfl | exact Or.inr rfl) (Nat.le_of_ble_eq_true rfl) (Nat.le_of_ble_eq_true rfl) hK hP hD hS dX2_isWaiting_17 (⟨rfl, g_is0 (by intro h; simp only [Int32.le_iff_toInt_le, Int32.lt_iff_toInt_lt, gl_m1, gl_0, gl_1, gl_2, gl_3, gl_5, gl_6, gl_8, gl_9, gl_10, gl_11, gl_20, gl_40, gl_60] at h c1 c9; omega)⟩)
    · refine lv_iconst (v := 1) hx hb dX2_isWaiting_12 (by decide) ?_
      refine lv_goto (tgt := 17) hx hb dX2_isWaiting_13 (by decide) ?_
      exact g_zret hx hb hr hlocks (by first | exact Or.inl rfl | exact Or.inr rfl) (Nat.le_of_ble_eq_true rfl) (Nat.le_of_ble_eq_true rfl) hK hP hD hS dX2_isWaiting_17 (⟨rfl, g_is1 (by simp only [Int32.le_iff_toInt_le, Int32.lt_iff_toInt_lt, gl_m1, gl_0, gl_1, gl_2, gl_3, gl_5, gl_6, gl_8, gl_9, gl_10, gl_11, gl_20, gl_40, gl_60] at c1 c9 ⊢; omega)⟩)
set_option maxHeartbeats 4000000 in
set_option maxRecDepth 100000 in
/-- Row.isOpen() -/
theorem c_isOpen (l : Launch) (D : va_G) (K : gCl) (ws : va_W) (a oa q0 : Nat) (z sd ho bk : Int32) (sz : Nat) (he : ws[q0]? = some (a, gRow oa z sd ho bk)) : gMi l yX1_isOpen wsX1_isOpen ({ frames := 0, cells := 0, slots := 0, locals := 0 } : Room) D vwCl (gT K) [.ref a] (ws) sz (fun r w => w = ws ∧ (r = 0 ↔ ¬ 0 < z)) 0 0 := by
  refine g_of (cc := cX1_isOpen) (maxL := 1) (ret := (some .boolean)) (Qc := fun A => va_Qi (fun r w => w = ws ∧ (r = 0 ↔ ¬ 0 < z)) (gB D vwCl (gT K) A) A) (by decide) rfl (Nat.le_of_ble_eq_true rfl) ?_
  intro p e s m below meth c A ls I hl
  have I0 := I
  obtain ⟨hx, hb, hr, hml, hown, hts, hlocks, hnm, hA, hK, hP, hD, hS⟩ := I
  have hown : s.vm.findClass RX1 = some m.cls := hown
  have hl : lv_has ls 1 [(0, .ref a)] := hl
  have hi_X1 : ∀ w ∈ u_ws RX1 TX1 5, w ∈ wsX1_isOpen := by decide +kernel
  refine lv_aload_n hx hb dX1_isOpen_0 rfl (lv_at hl 0 rfl) ?_
  refine va_get (C := RX1) (T := TX1) (N := 5) (ci := 1) hx hb hts hi_X1 hown hK hP (q0) (he) rfl 1 (by decide) (hts (.fieldLink RX1 15 "GroupSeats$Row" "size" "I") (by decide +kernel)) (fun _ h9 => h9) rfl dX1_isOpen_1 ?_
  refine lv_if_le (tgt := 11) hx hb dX1_isOpen_4 (by decide) (fun c4 => ?_) (fun c4 => ?_)
  · refine lv_iconst (v := 0) hx hb dX1_isOpen_11 (by decide) ?_
    exact g_zret hx hb hr hlocks (by first | exact Or.inl rfl | exact Or.inr rfl) (Nat.le_of_ble_eq_true rfl) (Nat.le_of_ble_eq_true rfl) hK hP hD hS dX1_isOpen_12 (⟨rfl, g_is0 (by intro h; simp only [Int32.le_iff_toInt_le, Int32.lt_iff_toInt_lt, gl_m1, gl_0, gl_1, gl_2, gl_3, gl_5, gl_6, gl_8, gl_9, gl_10, gl_11, gl_20, gl_40, gl_60] at h c4; omega)⟩)
  · refine lv_iconst (v := 1) hx hb dX1_isOpen_7 (by decide) ?_
    refine lv_goto (tgt := 12) hx hb dX1_isOpen_8 (by decide) ?_
    exact g_zret hx hb hr hlocks (by first | exact Or.inl rfl | exact Or.inr rfl) (Nat.le_of_ble_eq_true rfl) (Nat.le_of_ble_eq_true rfl) hK hP hD hS dX1_isOpen_12 (⟨rfl, g_is1 (by simp only [Int32.le_iff_toInt_le, Int32.lt_iff_toInt_lt, gl_m1, gl_0, gl_1, gl_2, gl_3, gl_5, gl_6, gl_8, gl_9, gl_10, gl_11, gl_20, gl_40, gl_60] at c4 ⊢; omega)⟩)
set_option maxHeartbeats 4000000 in
set_option maxRecDepth 100000 in
/-- the model: in(x, lo, hi) -/
theorem c_in (l : Launch) (D : va_G) (K : gCl) (ws : va_W) (x lo hi : Int32) (sz : Nat)  : gMi l yX3_in wsX3_in ({ frames := 0, cells := 0, slots := 0, locals := 0 } : Room) D vwCl (gT K) [.int x, .int lo, .int hi] (ws) sz (fun r w => w = ws ∧ (r = 0 ↔ ¬ (lo ≤ x ∧ x ≤ hi))) 0 0 := by
  refine g_of (cc := cX3_in) (maxL := 3) (ret := (some .boolean)) (Qc := fun A => va_Qi (fun r w => w = ws ∧ (r = 0 ↔ ¬ (lo ≤ x ∧ x ≤ hi))) (gB D vwCl (gT K) A) A) (by decide) rfl (Nat.le_of_ble_eq_true rfl) ?_
  intro p e s m below meth c A ls I hl
  have I0 := I
  obtain ⟨hx, hb, hr, hml, hown, hts, hlocks, hnm, hA, hK, hP, hD, hS⟩ := I
  have hown : s.vm.findClass RX3 = some m.cls := hown
  have hl : lv_has ls 3 [(0, .int x), (1, .int lo), (2, .int hi)] := hl
  refine lv_iload_n hx hb dX3_in_0 rfl (lv_at hl 0 rfl) ?_
  refine lv_iload_n hx hb dX3_in_1 rfl (lv_at hl 1 rfl) ?_
  refine lv_icmp_lt (tgt := 14) hx hb dX3_in_2 (by decide) (fun c2 => ?_) (fun c2 => ?_)
  · refine lv_iconst (v := 0) hx hb dX3_in_14 (by decide) ?_
    exact g_zret hx hb hr hlocks (by first | exact Or.inl rfl | exact Or.inr rfl) (Nat.le_of_ble_eq_true rfl) (Nat.le_of_ble_eq_true rfl) hK hP hD hS dX3_in_15 (⟨rfl, g_is0 (by intro h; simp only [Int32.le_iff_toInt_le, Int32.lt_iff_toInt_lt, gl_m1, gl_0, gl_1, gl_2, gl_3, gl_5, gl_6, gl_8, gl_9, gl_10, gl_11, gl_20, gl_40, gl_60] at h c2; omega)⟩)
  · refine lv_iload_n hx hb dX3_in_5 rfl (lv_at hl 0 rfl) ?_
    refine lv_iload_n hx hb dX3_in_6 rfl (lv_at hl 2 rfl) ?_
    refine lv_icmp_gt (tgt := 14) hx hb dX3_in_7 (by decide) (fun c7 => ?_) (fun c7 => ?_)
    · refine lv_iconst (v := 0) hx hb dX3_in_14 (by decide) ?_
      exact g_zret hx hb hr hlocks (by first | exact Or.inl rfl | exact Or.inr rfl) (Nat.le_of_ble_eq_true rfl) (Nat.le_of_ble_eq_true rfl) hK hP hD hS dX3_in_15 (⟨rfl, g_is0 (by intro h; simp only [Int32.le_iff_toInt_le, Int32.lt_iff_toInt_lt, gl_m1, gl_0, gl_1, gl_2, gl_3, gl_5, gl_6, gl_8, gl_9, gl_10, gl_11, gl_20, gl_40, gl_60] at h c2 c7; omega)⟩)
    · refine lv_iconst (v := 1) hx hb dX3_in_10 (by decide) ?_
      refine lv_goto (tgt := 15) hx hb dX3_in_11 (by decide) ?_
      exact g_zret hx hb hr hlocks (by first | exact Or.inl rfl | exact Or.inr rfl) (Nat.le_of_ble_eq_true rfl) (Nat.le_of_ble_eq_true rfl) hK hP hD hS dX3_in_15 (⟨rfl, g_is1 (by simp only [Int32.le_iff_toInt_le, Int32.lt_iff_toInt_lt, gl_m1, gl_0, gl_1, gl_2, gl_3, gl_5, gl_6, gl_8, gl_9, gl_10, gl_11, gl_20, gl_40, gl_60] at c2 c7 ⊢; omega)⟩)
set_option maxHeartbeats 4000000 in
set_option maxRecDepth 100000 in
/-- new Party() -/
theorem c_Party_init (l : Launch) (D : va_G) (K : gCl) (h0 : Nat) (sz : Nat)  : gMv l yX0_init wsX0_init ({ frames := 1, cells := 1, slots := 6, locals := 12 } : Room) D vwCl (gT K) [.ref h0] ([(h0, .inr (0, [.null, .int 0, .int 0, .int 0]))]) sz (fun w => ∃ q : Nat, w = [(h0, gPar q 0 0 0), (q, gArr K.1 6 (fun _ => 0))]) 1 6 := by
  refine g_of (cc := cX0_init) (maxL := 1) (ret := none) (Qc := fun A => va_Qv (fun w => ∃ q : Nat, w = [(h0, gPar q 0 0 0), (q, gArr K.1 6 (fun _ => 0))]) (gB D vwCl (gT K) A) A) (by decide) rfl (Nat.le_of_ble_eq_true rfl) ?_
  intro p e s m below meth c A ls I hl
  have I0 := I
  obtain ⟨hx, hb, hr, hml, hown, hts, hlocks, hnm, hA, hK, hP, hD, hS⟩ := I
  have hown : s.vm.findClass RX0 = some m.cls := hown
  have hl : lv_has ls 1 [(0, .ref h0)] := hl
  have hi_X0 : ∀ w ∈ u_ws RX0 TX0 4, w ∈ wsX0_init := by decide +kernel
  refine lv_aload_n hx hb dX0_init_0 rfl (lv_at hl 0 rfl) ?_
  refine W.objInit hx hb hown (hts (.methodLink RX0 3 objectInit) (by decide +kernel)) (hts (.instanceMethod objectInit) (by decide +kernel)) (hts _ (List.mem_cons_of_mem _ (List.mem_append_left _ (List.mem_of_getElem? (i := 2) rfl)))) rfl (by rw [hml]; exact hl.1) rfl dX0_init_1 (Nat.le_of_ble_eq_true rfl) (Nat.le_of_ble_eq_true rfl) ?_
  refine W.eq (g2 := F0 m 4 ls []) rfl ?_
  refine lv_aload_n hx hb dX0_init_4 rfl (lv_at hl 0 rfl) ?_
  refine lv_bipush (v := 6) hx hb dX0_init_5 (by decide) ?_
  refine g_newa (atype := .int) (ty := .int) (N' := 6) (a0 := (6, .inl (fun _ => 0))) hx hb (hts (.arrayClass .int) (by decide +kernel)) rfl hK hP hD hS hA 0 rfl (fun _ => rfl) (by decide) (by decide) (Nat.le_of_ble_eq_true rfl) (Nat.le_of_ble_eq_true rfl) (Nat.le_of_ble_eq_true rfl) dX0_init_7 (fun q H hP hD hS => ?_)
  refine va_putF (C := RX0) (T := TX0) (N := 4) (ci := 0) (ty := .array .int) hx hb hts hi_X0 tyX0 tyX0_ok nmX0 hown hK hP hD hS (0) (rfl) rfl 0 (by decide) (hts (.fieldLink RX0 9 "GroupSeats$Party" "numbers" "[I") (by decide +kernel)) (fun _ h9 => h9) rfl hnm rfl (by decide +kernel) rfl rfl (Nat.le_of_ble_eq_true rfl) dX0_init_9 (fun H locs hP hD hS => ?_)
  exact g_vret hx hb hr hlocks (Nat.le_refl _) (Nat.le_refl _) hK hP hD hS dX0_init_12 (⟨q, rfl⟩)
set_option maxHeartbeats 4000000 in
set_option maxRecDepth 100000 in
/-- new Row() -/
theorem c_Row_init (l : Launch) (D : va_G) (K : gCl) (h0 : Nat) (sz : Nat)  : gMv l yX1_init wsX1_init ({ frames := 1, cells := 1, slots := 20, locals := 12 } : Room) D vwCl (gT K) [.ref h0] ([(h0, .inr (1, [.null, .int 0, .int 0, .int 0, .int 0]))]) sz (fun w => ∃ q : Nat, w = [(h0, gRow q 0 0 0 0), (q, gArr K.1 20 (fun _ => 0))]) 1 20 := by
  refine g_of (cc := cX1_init) (maxL := 1) (ret := none) (Qc := fun A => va_Qv (fun w => ∃ q : Nat, w = [(h0, gRow q 0 0 0 0), (q, gArr K.1 20 (fun _ => 0))]) (gB D vwCl (gT K) A) A) (by decide) rfl (Nat.le_of_ble_eq_true rfl) ?_
  intro p e s m below meth c A ls I hl
  have I0 := I
  obtain ⟨hx, hb, hr, hml, hown, hts, hlocks, hnm, hA, hK, hP, hD, hS⟩ := I
  have hown : s.vm.findClass RX1 = some m.cls := hown
  have hl : lv_has ls 1 [(0, .ref h0)] := hl
  have hi_X1 : ∀ w ∈ u_ws RX1 TX1 5, w ∈ wsX1_init := by decide +kernel
  refine lv_aload_n hx hb dX1_init_0 rfl (lv_at hl 0 rfl) ?_
  refine W.objInit hx hb hown (hts (.methodLink RX1 3 objectInit) (by decide +kernel)) (hts (.instanceMethod objectInit) (by decide +kernel)) (hts _ (List.mem_cons_of_mem _ (List.mem_append_left _ (List.mem_of_getElem? (i := 2) rfl)))) rfl (by rw [hml]; exact hl.1) rfl dX1_init_1 (Nat.le_of_ble_eq_true rfl) (Nat.le_of_ble_eq_true rfl) ?_
  refine W.eq (g2 := F0 m 4 ls []) rfl ?_
  refine lv_aload_n hx hb dX1_init_4 rfl (lv_at hl 0 rfl) ?_
  refine lv_bipush (v := 20) hx hb dX1_init_5 (by decide) ?_
  refine g_newa (atype := .int) (ty := .int) (N' := 20) (a0 := (20, .inl (fun _ => 0))) hx hb (hts (.arrayClass .int) (by decide +kernel)) rfl hK hP hD hS hA 0 rfl (fun _ => rfl) (by decide) (by decide) (Nat.le_of_ble_eq_true rfl) (Nat.le_of_ble_eq_true rfl) (Nat.le_of_ble_eq_true rfl) dX1_init_7 (fun q H hP hD hS => ?_)
  refine va_putF (C := RX1) (T := TX1) (N := 5) (ci := 1) (ty := .array .int) hx hb hts hi_X1 tyX1 tyX1_ok nmX1 hown hK hP hD hS (0) (rfl) rfl 0 (by decide) (hts (.fieldLink RX1 9 "GroupSeats$Row" "owners" "[I") (by decide +kernel)) (fun _ h9 => h9) rfl hnm rfl (by decide +kernel) rfl rfl (Nat.le_of_ble_eq_true rfl) dX1_init_9 (fun H locs hP hD hS => ?_)
  exact g_vret hx hb hr hlocks (Nat.le_refl _) (Nat.le_refl _) hK hP hD hS dX1_init_12 (⟨q, rfl⟩)
set_option maxHeartbeats 4000000 in
set_option maxRecDepth 100000 in
theorem lp_begin {p : Program} {l : Launch} {e : Env} {s : State} {m : MethodId} {args : Array Value} {below : List Frame} {meth : Method} {c : Code} {A : Nat → Prop} {D : va_G} {K : gCl} {rm : Room} {ws0 wsF : va_W} {a o q0 q1 : Nat} {n z sd ho bk : Int32} {f : Nat → Int32} (hne : q0 ≠ q1)
    (I : gIn p s m meth c A yX1_begin wsX1_begin cX1_begin 3 none args D vwCl (gT K) ws0) :
    ∀ (k i : Nat), i + k = 20 → ∀ (ws : va_W), ws[q0]? = some (a, gRow o z sd ho bk) → ws[q1]? = some (o, gArr K.1 20 (gFill (-8) i f)) → ws.set q1 (o, gArr K.1 20 (gFill (-8) 20 f)) = wsF →
    ∀ (H : Heap) (locs : List Loc), va_P D vwCl ws H → va_D A ws → va_S A s.heap H locs → ∀ (ls : Array Slot), lv_has ls 3 [(2, .int (nI i)), (0, .ref a), (1, .int n)] →
    W p l e rm s m args below meth c H locs 0 0 (MQ below (va_Qv (fun w => w = wsF) (gB D vwCl (gT K) A) A) args s 0 0 A) (F0 m 17 ls []) := by
  obtain ⟨hx, hb, hr, hml, hown, hts, hlocks, hnm, hA, hK, -, -, -⟩ := I
  have hown : s.vm.findClass RX1 = some m.cls := hown
  have hi_X1 : ∀ w ∈ u_ws RX1 TX1 5, w ∈ wsX1_begin := by decide +kernel
  intro k
  induction k with
  | zero =>
    intro i hi ws he0 he1 hF H locs hP hD hS ls hl
    have hi20 : i = 20 := by omega
    subst hi20
    refine lv_iload_n hx hb dX1_begin_17 rfl (lv_at hl 0 rfl) ?_
    refine lv_bipush (v := 20) hx hb dX1_begin_18 (by decide) ?_
    refine lv_icmp_ge (tgt := 37) hx hb dX1_begin_20 (by decide) (fun c20 => ?_) (fun c20 => absurd (by decide) c20)
    exact g_vret hx hb hr hlocks (Nat.le_refl _) (Nat.le_refl _) hK hP hD hS dX1_begin_37 ((g_setid he1).symm.trans hF)
  | succ k ih =>
    intro i hi ws he0 he1 hF H locs hP hD hS ls hl
    have ih := fun (j : Nat) (hj : j + k = 20) => ih j hj
    refine lv_iload_n hx hb dX1_begin_17 rfl (lv_at hl 0 rfl) ?_
    refine lv_bipush (v := 20) hx hb dX1_begin_18 (by decide) ?_
    refine lv_icmp_ge (tgt := 37) hx hb dX1_begin_20 (by decide) (fun c20 => ?_) (fun c20 => ?_)
    · have hi20 : i = 20 := by
        rcases Nat.lt_or_ge i 20 with q | q
        · exact absurd c20 (nI_ge (b := 20) q (by decide))
        · omega
      subst hi20
      exact g_vret hx hb hr hlocks (Nat.le_of_ble_eq_true rfl) (Nat.le_of_ble_eq_true rfl) hK hP hD hS dX1_begin_37 ((g_setid he1).symm.trans hF)
    · have hlt : i < 20 := by
        rcases Nat.lt_or_ge i 20 with q | q
        · exact q
        · exact absurd (nI_le (a := 20) q (by omega)) c20
      refine lv_aload_n hx hb dX1_begin_23 rfl (lv_at hl 1 rfl) ?_
      refine va_get (C := RX1) (T := TX1) (N := 5) (ci := 1) hx hb hts hi_X1 hown hK hP (q0) (he0) rfl 0 (by decide) (hts (.fieldLink RX1 9 "GroupSeats$Row" "owners" "[I") (by decide +kernel)) (fun _ h9 => h9) rfl dX1_begin_24 ?_
      refine lv_iload_n hx hb dX1_begin_27 rfl (lv_at hl 0 rfl) ?_
      refine lv_bipush (v := -8) hx hb dX1_begin_28 (by decide) ?_
      refine va_iast hx hb hK hP hD hS (q1) 0 (he1) rfl (vp_in_nI (show i < 20 by omega) (by decide)) dX1_begin_30 (fun H locs hP hD hS => ?_)
      refine lv_iinc (lv' := [(2, .int _), (0, .ref _), (1, .int _)]) hx hb dX1_begin_31 hl (k := 0) rfl rfl (by decide) rfl (fun ls hl => ?_)
      refine lv_goto (tgt := 17) hx hb dX1_begin_34 (by decide) ?_
      rw [g_inc] at hl
      exact ih (i + 1) (by omega) _ (g_setne (Ne.symm hne) he0) ((g_setself he1).trans (by rw [gFill_up (-8) f (by omega)])) (by rw [List.set_set]; exact hF) H locs hP hD hS ls (lv_sub hl [0, 1, 2] rfl)
set_option maxHeartbeats 4000000 in
set_option maxRecDepth 100000 in
/-- Row.begin(n): n seats, all free, not side by side, no backs -/
theorem c_begin (l : Launch) (D : va_G) (K : gCl) (ws : va_W) (a o q0 q1 : Nat) (z sd ho bk n : Int32) (f : Nat → Int32) (sz : Nat) (hne : q0 ≠ q1) (he0 : ws[q0]? = some (a, gRow o z sd ho bk)) (he1 : ws[q1]? = some (o, gArr K.1 20 f)) : gMv l yX1_begin wsX1_begin ({ frames := 0, cells := 0, slots := 0, locals := 0 } : Room) D vwCl (gT K) [.ref a, .int n] (ws) sz (fun w => w = (ws.set q0 (a, gRow o n 0 ho 0)).set q1 (o, gArr K.1 20 (gFill (-8) 20 f))) 0 0 := by
  refine g_of (cc := cX1_begin) (maxL := 3) (ret := none) (Qc := fun A => va_Qv (fun w => w = (ws.set q0 (a, gRow o n 0 ho 0)).set q1 (o, gArr K.1 20 (gFill (-8) 20 f))) (gB D vwCl (gT K) A) A) (by decide) rfl (Nat.le_of_ble_eq_true rfl) ?_
  intro p e s m below meth c A ls I hl
  have I0 := I
  obtain ⟨hx, hb, hr, hml, hown, hts, hlocks, hnm, hA, hK, hP, hD, hS⟩ := I
  have hown : s.vm.findClass RX1 = some m.cls := hown
  have hl : lv_has ls 3 [(0, .ref a), (1, .int n)] := hl
  have hi_X1 : ∀ w ∈ u_ws RX1 TX1 5, w ∈ wsX1_begin := by decide +kernel
  refine lv_aload_n hx hb dX1_begin_0 rfl (lv_at hl 0 rfl) ?_
  refine lv_iload_n hx hb dX1_begin_1 rfl (lv_at hl 1 rfl) ?_
  refine va_put (C := RX1) (T := TX1) (N := 5) (ci := 1) (ty := .int) hx hb hts hi_X1 tyX1 tyX1_ok nmX1 hown hK hP hD hS (q0) (he0) rfl 1 (by decide) (hts (.fieldLink RX1 15 "GroupSeats$Row" "size" "I") (by decide +kernel)) (fun _ h9 => h9) rfl (by decide +kernel) rfl rfl (Nat.le_of_ble_eq_true rfl) dX1_begin_2 (fun H locs hP hD hS => ?_)
  refine lv_aload_n hx hb dX1_begin_5 rfl (lv_at hl 0 rfl) ?_
  refine lv_iconst (v := 0) hx hb dX1_begin_6 (by decide) ?_
  refine va_put (C := RX1) (T := TX1) (N := 5) (ci := 1) (ty := .boolean) hx hb hts hi_X1 tyX1 tyX1_ok nmX1 hown hK hP hD hS (q0) (g_setself he0) rfl 2 (by decide) (hts (.fieldLink RX1 19 "GroupSeats$Row" "sideBySide" "Z") (by decide +kernel)) (fun _ h9 => h9) rfl (by decide +kernel) rfl rfl (Nat.le_of_ble_eq_true rfl) dX1_begin_7 (fun H locs hP hD hS => ?_)
  refine lv_aload_n hx hb dX1_begin_10 rfl (lv_at hl 0 rfl) ?_
  refine lv_iconst (v := 0) hx hb dX1_begin_11 (by decide) ?_
  refine va_put (C := RX1) (T := TX1) (N := 5) (ci := 1) (ty := .int) hx hb hts hi_X1 tyX1 tyX1_ok nmX1 hown hK hP hD hS (q0) (g_setself (g_setself he0)) rfl 4 (by decide) (hts (.fieldLink RX1 23 "GroupSeats$Row" "backs" "I") (by decide +kernel)) (fun _ h9 => h9) rfl (by decide +kernel) rfl rfl (Nat.le_of_ble_eq_true rfl) dX1_begin_12 (fun H locs hP hD hS => ?_)
  refine lv_iconst (v := 0) hx hb dX1_begin_15 (by decide) ?_
  refine lv_istore_n (lv' := [(2, .int _), (0, .ref _), (1, .int _)]) hx hb dX1_begin_16 rfl hl (by decide) rfl (fun ls hl => ?_)
  exact lp_begin hne I0 20 0 rfl _ (g_setself (g_setself (g_setself he0))) (g_setne hne (g_setne hne (g_setne hne (by rw [gFill_0]; exact he1)))) (by simp only [List.set_set, List.set]) H locs hP hD hS ls (lv_sub hl [0, 1, 2] rfl)
end
section
set_option maxHeartbeats 4000000 in
set_option maxRecDepth 100000 in
/-- the model: new -/
theorem m_init (l : Launch) (D : va_G) (K : gCl) (h0 : Nat) (sz : Nat)  : gMv l yX3_init wsX3_init ({ frames := 1, cells := 13, slots := 372, locals := 12 } : Room) D vwCl (gT K) [.ref h0] ([(h0, .inr (3, [.int 0, .null, .null, .null, .null, .null, .null, .null, .int 0, .int 0, .null, .null, .null, .null, .int 0, .int 0, .int 0, .null, .int 0, .null, .int 0]))]) sz (fun w => ∃ ma : Nat → Nat, ma 0 = h0 ∧ w = mN K ma) 13 372 := by
  refine g_of (cc := cX3_init) (maxL := 1) (ret := none) (Qc := fun A => va_Qv (fun w => ∃ ma : Nat → Nat, ma 0 = h0 ∧ w = mN K ma) (gB D vwCl (gT K) A) A) (by decide) rfl (Nat.le_of_ble_eq_true rfl) ?_
  intro p e s m below meth c A ls I hl
  have I0 := I
  obtain ⟨hx, hb, hr, hml, hown, hts, hlocks, hnm, hA, hK, hP, hD, hS⟩ := I
  have hown : s.vm.findClass RX3 = some m.cls := hown
  have hl : lv_has ls 1 [(0, .ref h0)] := hl
  have hi_X3 : ∀ w ∈ u_ws RX3 TX3 21, w ∈ wsX3_init := by decide +kernel
  have hoi : Cond.code objectInit ⟨#[0xb1]⟩ 1 none ∈ wsX3_init := List.mem_cons_of_mem _ (List.mem_append_left _ (List.mem_of_getElem? (i := 2) rfl))
  refine lv_aload_n hx hb dX3_init_0 rfl (lv_at hl 0 rfl) ?_
  refine W.objInit hx hb hown (hts (.methodLink RX3 1 objectInit) (by decide +kernel)) (hts (.instanceMethod objectInit) (by decide +kernel)) (hts _ hoi) rfl (by rw [hml]; exact hl.1) rfl dX3_init_1 (Nat.le_of_ble_eq_true rfl) (Nat.le_of_ble_eq_true rfl) ?_
  refine W.eq (g2 := F0 m 4 ls []) rfl ?_
  refine lv_aload_n hx hb dX3_init_4 rfl (lv_at hl 0 rfl) ?_
  refine lv_bipush (v := 10) hx hb dX3_init_5 (by decide) ?_
  refine g_newa (atype := .boolean) (ty := .boolean) (N' := 10) (a0 := (10, .inl (fun _ => 0))) hx hb (hts (.arrayClass .boolean) (by decide +kernel)) rfl hK hP hD hS hA 1 rfl (fun _ => rfl) (by decide) (by decide) (Nat.le_of_ble_eq_true rfl) (Nat.le_of_ble_eq_true rfl) (Nat.le_of_ble_eq_true rfl) dX3_init_7 (fun q1 H hP hD hS => ?_)
  have hP : va_P D vwCl [(h0, .inr (3, [.int 0, .null, .null, .null, .null, .null, .null, .null, .int 0, .int 0, .null, .null, .null, .null, .int 0, .int 0, .int 0, .null, .int 0, .null, .int 0])), (q1, gArr K.2.1 10 (fun _ => 0))] H := hP
  have hD : va_D A [(h0, .inr (3, [.int 0, .null, .null, .null, .null, .null, .null, .null, .int 0, .int 0, .null, .null, .null, .null, .int 0, .int 0, .int 0, .null, .int 0, .null, .int 0])), (q1, gArr K.2.1 10 (fun _ => 0))] := hD
  refine va_putF (C := RX3) (T := TX3) (N := 21) (ci := 3) (ty := .array .boolean) hx hb hts hi_X3 tyX3 tyX3_ok nmX3 hown hK hP hD hS (0) (rfl) rfl 1 (by decide) (hts (.fieldLink RX3 7 "GroupSeatsModel" "isOpen" "[Z") (by decide +kernel)) (fun _ h9 => h9) rfl hnm rfl (by decide +kernel) rfl rfl (Nat.le_of_ble_eq_true rfl) dX3_init_9 (fun H locs hP hD hS => ?_)
  have hP : va_P D vwCl [(h0, .inr (3, [.int 0, .ref q1, .null, .null, .null, .null, .null, .null, .int 0, .int 0, .null, .null, .null, .null, .int 0, .int 0, .int 0, .null, .int 0, .null, .int 0])), (q1, gArr K.2.1 10 (fun _ => 0))] H := hP
  have hD : va_D A [(h0, .inr (3, [.int 0, .ref q1, .null, .null, .null, .null, .null, .null, .int 0, .int 0, .null, .null, .null, .null, .int 0, .int 0, .int 0, .null, .int 0, .null, .int 0])), (q1, gArr K.2.1 10 (fun _ => 0))] := hD
  refine lv_aload_n hx hb dX3_init_12 rfl (lv_at hl 0 rfl) ?_
  refine lv_bipush (v := 10) hx hb dX3_init_13 (by decide) ?_
  refine g_newa (atype := .boolean) (ty := .boolean) (N' := 10) (a0 := (10, .inl (fun _ => 0))) hx hb (hts (.arrayClass .boolean) (by decide +kernel)) rfl hK hP hD hS hA 1 rfl (fun _ => rfl) (by decide) (by decide) (Nat.le_of_ble_eq_true rfl) (Nat.le_of_ble_eq_true rfl) (Nat.le_of_ble_eq_true rfl) dX3_init_15 (fun q2 H hP hD hS => ?_)
  have hP : va_P D vwCl [(h0, .inr (3, [.int 0, .ref q1, .null, .null, .null, .null, .null, .null, .int 0, .int 0, .null, .null, .null, .null, .int 0, .int 0, .int 0, .null, .int 0, .null, .int 0])), (q1, gArr K.2.1 10 (fun _ => 0)), (q2, gArr K.2.1 10 (fun _ => 0))] H := hP
  have hD : va_D A [(h0, .inr (3, [.int 0, .ref q1, .null, .null, .null, .null, .null, .null, .int 0, .int 0, .null, .null, .null, .null, .int 0, .int 0, .int 0, .null, .int 0, .null, .int 0])), (q1, gArr K.2.1 10 (fun _ => 0)), (q2, gArr K.2.1 10 (fun _ => 0))] := hD
  refine va_putF (C := RX3) (T := TX3) (N := 21) (ci := 3) (ty := .array .boolean) hx hb hts hi_X3 tyX3 tyX3_ok nmX3 hown hK hP hD hS (0) (rfl) rfl 2 (by decide) (hts (.fieldLink RX3 13 "GroupSeatsModel" "isStrict" "[Z") (by decide +kernel)) (fun _ h9 => h9) rfl hnm rfl (by decide +kernel) rfl rfl (Nat.le_of_ble_eq_true rfl) dX3_init_17 (fun H locs hP hD hS => ?_)
  have hP : va_P D vwCl [(h0, .inr (3, [.int 0, .ref q1, .ref q2, .null, .null, .null, .null, .null, .int 0, .int 0, .null, .null, .null, .null, .int 0, .int 0, .int 0, .null, .int 0, .null, .int 0])), (q1, gArr K.2.1 10 (fun _ => 0)), (q2, gArr K.2.1 10 (fun _ => 0))] H := hP
  have hD : va_D A [(h0, .inr (3, [.int 0, .ref q1, .ref q2, .null, .null, .null, .null, .null, .int 0, .int 0, .null, .null, .null, .null, .int 0, .int 0, .int 0, .null, .int 0, .null, .int 0])), (q1, gArr K.2.1 10 (fun _ => 0)), (q2, gArr K.2.1 10 (fun _ => 0))] := hD
  refine lv_aload_n hx hb dX3_init_20 rfl (lv_at hl 0 rfl) ?_
  refine lv_bipush (v := 10) hx hb dX3_init_21 (by decide) ?_
  refine g_newa (atype := .int) (ty := .int) (N' := 10) (a0 := (10, .inl (fun _ => 0))) hx hb (hts (.arrayClass .int) (by decide +kernel)) rfl hK hP hD hS hA 0 rfl (fun _ => rfl) (by decide) (by decide) (Nat.le_of_ble_eq_true rfl) (Nat.le_of_ble_eq_true rfl) (Nat.le_of_ble_eq_true rfl) dX3_init_23 (fun q3 H hP hD hS => ?_)
  have hP : va_P D vwCl [(h0, .inr (3, [.int 0, .ref q1, .ref q2, .null, .null, .null, .null, .null, .int 0, .int 0, .null, .null, .null, .null, .int 0, .int 0, .int 0, .null, .int 0, .null, .int 0])), (q1, gArr K.2.1 10 (fun _ => 0)), (q2, gArr K.2.1 10 (fun _ => 0)), (q3, gArr K.1 10 (fun _ => 0))] H := hP
  have hD : va_D A [(h0, .inr (3, [.int 0, .ref q1, .ref q2, .null, .null, .null, .null, .null, .int 0, .int 0, .null, .null, .null, .null, .int 0, .int 0, .int 0, .null, .int 0, .null, .int 0])), (q1, gArr K.2.1 10 (fun _ => 0)), (q2, gArr K.2.1 10 (fun _ => 0)), (q3, gArr K.1 10 (fun _ => 0))] := hD
  refine va_putF (C := RX3) (T := TX3) (N := 21) (ci := 3) (ty := .array .int) hx hb hts hi_X3 tyX3 tyX3_ok nmX3 hown hK hP hD hS (0) (rfl) rfl 3 (by decide) (hts (.fieldLink RX3 16 "GroupSeatsModel" "size" "[I") (by decide +kernel)) (fun _ h9 => h9) rfl hnm rfl (by decide +kernel) rfl rfl (Nat.le_of_ble_eq_true rfl) dX3_init_25 (fun H locs hP hD hS => ?_)
  have hP : va_P D vwCl [(h0, .inr (3, [.int 0, .ref q1, .ref q2, .ref q3, .null, .null, .null, .null, .int 0, .int 0, .null, .null, .null, .null, .int 0, .int 0, .int 0, .null, .int 0, .null, .int 0])), (q1, gArr K.2.1 10 (fun _ => 0)), (q2, gArr K.2.1 10 (fun _ => 0)), (q3, gArr K.1 10 (fun _ => 0))] H := hP
  have hD : va_D A [(h0, .inr (3, [.int 0, .ref q1, .ref q2, .ref q3, .null, .null, .null, .null, .int 0, .int 0, .null, .null, .null, .null, .int 0, .int 0, .int 0, .null, .int 0, .null, .int 0])), (q1, gArr K.2.1 10 (fun _ => 0)), (q2, gArr K.2.1 10 (fun _ => 0)), (q3, gArr K.1 10 (fun _ => 0))] := hD
  refine lv_aload_n hx hb dX3_init_28 rfl (lv_at hl 0 rfl) ?_
  refine lv_bipush (v := 10) hx hb dX3_init_29 (by decide) ?_
  refine g_newa (atype := .int) (ty := .int) (N' := 10) (a0 := (10, .inl (fun _ => 0))) hx hb (hts (.arrayClass .int) (by decide +kernel)) rfl hK hP hD hS hA 0 rfl (fun _ => rfl) (by decide) (by decide) (Nat.le_of_ble_eq_true rfl) (Nat.le_of_ble_eq_true rfl) (Nat.le_of_ble_eq_true rfl) dX3_init_31 (fun q4 H hP hD hS => ?_)
  have hP : va_P D vwCl [(h0, .inr (3, [.int 0, .ref q1, .ref q2, .ref q3, .null, .null, .null, .null, .int 0, .int 0, .null, .null, .null, .null, .int 0, .int 0, .int 0, .null, .int 0, .null, .int 0])), (q1, gArr K.2.1 10 (fun _ => 0)), (q2, gArr K.2.1 10 (fun _ => 0)), (q3, gArr K.1 10 (fun _ => 0)), (q4, gArr K.1 10 (fun _ => 0))] H := hP
  have hD : va_D A [(h0, .inr (3, [.int 0, .ref q1, .ref q2, .ref q3, .null, .null, .null, .null, .int 0, .int 0, .null, .null, .null, .null, .int 0, .int 0, .int 0, .null, .int 0, .null, .int 0])), (q1, gArr K.2.1 10 (fun _ => 0)), (q2, gArr K.2.1 10 (fun _ => 0)), (q3, gArr K.1 10 (fun _ => 0)), (q4, gArr K.1 10 (fun _ => 0))] := hD
  refine va_putF (C := RX3) (T := TX3) (N := 21) (ci := 3) (ty := .array .int) hx hb hts hi_X3 tyX3 tyX3_ok nmX3 hown hK hP hD hS (0) (rfl) rfl 4 (by decide) (hts (.fieldLink RX3 20 "GroupSeatsModel" "holds" "[I") (by decide +kernel)) (fun _ h9 => h9) rfl hnm rfl (by decide +kernel) rfl rfl (Nat.le_of_ble_eq_true rfl) dX3_init_33 (fun H locs hP hD hS => ?_)
  have hP : va_P D vwCl [(h0, .inr (3, [.int 0, .ref q1, .ref q2, .ref q3, .ref q4, .null, .null, .null, .int 0, .int 0, .null, .null, .null, .null, .int 0, .int 0, .int 0, .null, .int 0, .null, .int 0])), (q1, gArr K.2.1 10 (fun _ => 0)), (q2, gArr K.2.1 10 (fun _ => 0)), (q3, gArr K.1 10 (fun _ => 0)), (q4, gArr K.1 10 (fun _ => 0))] H := hP
  have hD : va_D A [(h0, .inr (3, [.int 0, .ref q1, .ref q2, .ref q3, .ref q4, .null, .null, .null, .int 0, .int 0, .null, .null, .null, .null, .int 0, .int 0, .int 0, .null, .int 0, .null, .int 0])), (q1, gArr K.2.1 10 (fun _ => 0)), (q2, gArr K.2.1 10 (fun _ => 0)), (q3, gArr K.1 10 (fun _ => 0)), (q4, gArr K.1 10 (fun _ => 0))] := hD
  refine lv_aload_n hx hb dX3_init_36 rfl (lv_at hl 0 rfl) ?_
  refine lv_bipush (v := 10) hx hb dX3_init_37 (by decide) ?_
  refine g_newa (atype := .int) (ty := .int) (N' := 10) (a0 := (10, .inl (fun _ => 0))) hx hb (hts (.arrayClass .int) (by decide +kernel)) rfl hK hP hD hS hA 0 rfl (fun _ => rfl) (by decide) (by decide) (Nat.le_of_ble_eq_true rfl) (Nat.le_of_ble_eq_true rfl) (Nat.le_of_ble_eq_true rfl) dX3_init_39 (fun q5 H hP hD hS => ?_)
  have hP : va_P D vwCl [(h0, .inr (3, [.int 0, .ref q1, .ref q2, .ref q3, .ref q4, .null, .null, .null, .int 0, .int 0, .null, .null, .null, .null, .int 0, .int 0, .int 0, .null, .int 0, .null, .int 0])), (q1, gArr K.2.1 10 (fun _ => 0)), (q2, gArr K.2.1 10 (fun _ => 0)), (q3, gArr K.1 10 (fun _ => 0)), (q4, gArr K.1 10 (fun _ => 0)), (q5, gArr K.1 10 (fun _ => 0))] H := hP
  have hD : va_D A [(h0, .inr (3, [.int 0, .ref q1, .ref q2, .ref q3, .ref q4, .null, .null, .null, .int 0, .int 0, .null, .null, .null, .null, .int 0, .int 0, .int 0, .null, .int 0, .null, .int 0])), (q1, gArr K.2.1 10 (fun _ => 0)), (q2, gArr K.2.1 10 (fun _ => 0)), (q3, gArr K.1 10 (fun _ => 0)), (q4, gArr K.1 10 (fun _ => 0)), (q5, gArr K.1 10 (fun _ => 0))] := hD
  refine va_putF (C := RX3) (T := TX3) (N := 21) (ci := 3) (ty := .array .int) hx hb hts hi_X3 tyX3 tyX3_ok nmX3 hown hK hP hD hS (0) (rfl) rfl 5 (by decide) (hts (.fieldLink RX3 23 "GroupSeatsModel" "back" "[I") (by decide +kernel)) (fun _ h9 => h9) rfl hnm rfl (by decide +kernel) rfl rfl (Nat.le_of_ble_eq_true rfl) dX3_init_41 (fun H locs hP hD hS => ?_)
  have hP : va_P D vwCl [(h0, .inr (3, [.int 0, .ref q1, .ref q2, .ref q3, .ref q4, .ref q5, .null, .null, .int 0, .int 0, .null, .null, .null, .null, .int 0, .int 0, .int 0, .null, .int 0, .null, .int 0])), (q1, gArr K.2.1 10 (fun _ => 0)), (q2, gArr K.2.1 10 (fun _ => 0)), (q3, gArr K.1 10 (fun _ => 0)), (q4, gArr K.1 10 (fun _ => 0)), (q5, gArr K.1 10 (fun _ => 0))] H := hP
  have hD : va_D A [(h0, .inr (3, [.int 0, .ref q1, .ref q2, .ref q3, .ref q4, .ref q5, .null, .null, .int 0, .int 0, .null, .null, .null, .null, .int 0, .int 0, .int 0, .null, .int 0, .null, .int 0])), (q1, gArr K.2.1 10 (fun _ => 0)), (q2, gArr K.2.1 10 (fun _ => 0)), (q3, gArr K.1 10 (fun _ => 0)), (q4, gArr K.1 10 (fun _ => 0)), (q5, gArr K.1 10 (fun _ => 0))] := hD
  refine lv_aload_n hx hb dX3_init_44 rfl (lv_at hl 0 rfl) ?_
  refine lv_sipush (v := 200) hx hb dX3_init_45 (by decide) ?_
  refine g_newa (atype := .int) (ty := .int) (N' := 200) (a0 := (200, .inl (fun _ => 0))) hx hb (hts (.arrayClass .int) (by decide +kernel)) rfl hK hP hD hS hA 0 rfl (fun _ => rfl) (by decide) (by decide) (Nat.le_of_ble_eq_true rfl) (Nat.le_of_ble_eq_true rfl) (Nat.le_of_ble_eq_true rfl) dX3_init_48 (fun q6 H hP hD hS => ?_)
  have hP : va_P D vwCl [(h0, .inr (3, [.int 0, .ref q1, .ref q2, .ref q3, .ref q4, .ref q5, .null, .null, .int 0, .int 0, .null, .null, .null, .null, .int 0, .int 0, .int 0, .null, .int 0, .null, .int 0])), (q1, gArr K.2.1 10 (fun _ => 0)), (q2, gArr K.2.1 10 (fun _ => 0)), (q3, gArr K.1 10 (fun _ => 0)), (q4, gArr K.1 10 (fun _ => 0)), (q5, gArr K.1 10 (fun _ => 0)), (q6, gArr K.1 200 (fun _ => 0))] H := hP
  have hD : va_D A [(h0, .inr (3, [.int 0, .ref q1, .ref q2, .ref q3, .ref q4, .ref q5, .null, .null, .int 0, .int 0, .null, .null, .null, .null, .int 0, .int 0, .int 0, .null, .int 0, .null, .int 0])), (q1, gArr K.2.1 10 (fun _ => 0)), (q2, gArr K.2.1 10 (fun _ => 0)), (q3, gArr K.1 10 (fun _ => 0)), (q4, gArr K.1 10 (fun _ => 0)), (q5, gArr K.1 10 (fun _ => 0)), (q6, gArr K.1 200 (fun _ => 0))] := hD
  refine va_putF (C := RX3) (T := TX3) (N := 21) (ci := 3) (ty := .array .int) hx hb hts hi_X3 tyX3 tyX3_ok nmX3 hown hK hP hD hS (0) (rfl) rfl 6 (by decide) (hts (.fieldLink RX3 26 "GroupSeatsModel" "seats" "[I") (by decide +kernel)) (fun _ h9 => h9) rfl hnm rfl (by decide +kernel) rfl rfl (Nat.le_of_ble_eq_true rfl) dX3_init_50 (fun H locs hP hD hS => ?_)
  have hP : va_P D vwCl [(h0, .inr (3, [.int 0, .ref q1, .ref q2, .ref q3, .ref q4, .ref q5, .ref q6, .null, .int 0, .int 0, .null, .null, .null, .null, .int 0, .int 0, .int 0, .null, .int 0, .null, .int 0])), (q1, gArr K.2.1 10 (fun _ => 0)), (q2, gArr K.2.1 10 (fun _ => 0)), (q3, gArr K.1 10 (fun _ => 0)), (q4, gArr K.1 10 (fun _ => 0)), (q5, gArr K.1 10 (fun _ => 0)), (q6, gArr K.1 200 (fun _ => 0))] H := hP
  have hD : va_D A [(h0, .inr (3, [.int 0, .ref q1, .ref q2, .ref q3, .ref q4, .ref q5, .ref q6, .null, .int 0, .int 0, .null, .null, .null, .null, .int 0, .int 0, .int 0, .null, .int 0, .null, .int 0])), (q1, gArr K.2.1 10 (fun _ => 0)), (q2, gArr K.2.1 10 (fun _ => 0)), (q3, gArr K.1 10 (fun _ => 0)), (q4, gArr K.1 10 (fun _ => 0)), (q5, gArr K.1 10 (fun _ => 0)), (q6, gArr K.1 200 (fun _ => 0))] := hD
  refine lv_aload_n hx hb dX3_init_53 rfl (lv_at hl 0 rfl) ?_
  refine lv_bipush (v := 6) hx hb dX3_init_54 (by decide) ?_
  refine g_newa (atype := .int) (ty := .int) (N' := 6) (a0 := (6, .inl (fun _ => 0))) hx hb (hts (.arrayClass .int) (by decide +kernel)) rfl hK hP hD hS hA 0 rfl (fun _ => rfl) (by decide) (by decide) (Nat.le_of_ble_eq_true rfl) (Nat.le_of_ble_eq_true rfl) (Nat.le_of_ble_eq_true rfl) dX3_init_56 (fun q7 H hP hD hS => ?_)
  have hP : va_P D vwCl [(h0, .inr (3, [.int 0, .ref q1, .ref q2, .ref q3, .ref q4, .ref q5, .ref q6, .null, .int 0, .int 0, .null, .null, .null, .null, .int 0, .int 0, .int 0, .null, .int 0, .null, .int 0])), (q1, gArr K.2.1 10 (fun _ => 0)), (q2, gArr K.2.1 10 (fun _ => 0)), (q3, gArr K.1 10 (fun _ => 0)), (q4, gArr K.1 10 (fun _ => 0)), (q5, gArr K.1 10 (fun _ => 0)), (q6, gArr K.1 200 (fun _ => 0)), (q7, gArr K.1 6 (fun _ => 0))] H := hP
  have hD : va_D A [(h0, .inr (3, [.int 0, .ref q1, .ref q2, .ref q3, .ref q4, .ref q5, .ref q6, .null, .int 0, .int 0, .null, .null, .null, .null, .int 0, .int 0, .int 0, .null, .int 0, .null, .int 0])), (q1, gArr K.2.1 10 (fun _ => 0)), (q2, gArr K.2.1 10 (fun _ => 0)), (q3, gArr K.1 10 (fun _ => 0)), (q4, gArr K.1 10 (fun _ => 0)), (q5, gArr K.1 10 (fun _ => 0)), (q6, gArr K.1 200 (fun _ => 0)), (q7, gArr K.1 6 (fun _ => 0))] := hD
  refine va_putF (C := RX3) (T := TX3) (N := 21) (ci := 3) (ty := .array .int) hx hb hts hi_X3 tyX3 tyX3_ok nmX3 hown hK hP hD hS (0) (rfl) rfl 7 (by decide) (hts (.fieldLink RX3 29 "GroupSeatsModel" "list" "[I") (by decide +kernel)) (fun _ h9 => h9) rfl hnm rfl (by decide +kernel) rfl rfl (Nat.le_of_ble_eq_true rfl) dX3_init_58 (fun H locs hP hD hS => ?_)
  have hP : va_P D vwCl [(h0, .inr (3, [.int 0, .ref q1, .ref q2, .ref q3, .ref q4, .ref q5, .ref q6, .ref q7, .int 0, .int 0, .null, .null, .null, .null, .int 0, .int 0, .int 0, .null, .int 0, .null, .int 0])), (q1, gArr K.2.1 10 (fun _ => 0)), (q2, gArr K.2.1 10 (fun _ => 0)), (q3, gArr K.1 10 (fun _ => 0)), (q4, gArr K.1 10 (fun _ => 0)), (q5, gArr K.1 10 (fun _ => 0)), (q6, gArr K.1 200 (fun _ => 0)), (q7, gArr K.1 6 (fun _ => 0))] H := hP
  have hD : va_D A [(h0, .inr (3, [.int 0, .ref q1, .ref q2, .ref q3, .ref q4, .ref q5, .ref q6, .ref q7, .int 0, .int 0, .null, .null, .null, .null, .int 0, .int 0, .int 0, .null, .int 0, .null, .int 0])), (q1, gArr K.2.1 10 (fun _ => 0)), (q2, gArr K.2.1 10 (fun _ => 0)), (q3, gArr K.1 10 (fun _ => 0)), (q4, gArr K.1 10 (fun _ => 0)), (q5, gArr K.1 10 (fun _ => 0)), (q6, gArr K.1 200 (fun _ => 0)), (q7, gArr K.1 6 (fun _ => 0))] := hD
  refine lv_aload_n hx hb dX3_init_61 rfl (lv_at hl 0 rfl) ?_
  refine lv_bipush (v := 40) hx hb dX3_init_62 (by decide) ?_
  refine g_newa (atype := .boolean) (ty := .boolean) (N' := 40) (a0 := (40, .inl (fun _ => 0))) hx hb (hts (.arrayClass .boolean) (by decide +kernel)) rfl hK hP hD hS hA 1 rfl (fun _ => rfl) (by decide) (by decide) (Nat.le_of_ble_eq_true rfl) (Nat.le_of_ble_eq_true rfl) (Nat.le_of_ble_eq_true rfl) dX3_init_64 (fun q8 H hP hD hS => ?_)
  have hP : va_P D vwCl [(h0, .inr (3, [.int 0, .ref q1, .ref q2, .ref q3, .ref q4, .ref q5, .ref q6, .ref q7, .int 0, .int 0, .null, .null, .null, .null, .int 0, .int 0, .int 0, .null, .int 0, .null, .int 0])), (q1, gArr K.2.1 10 (fun _ => 0)), (q2, gArr K.2.1 10 (fun _ => 0)), (q3, gArr K.1 10 (fun _ => 0)), (q4, gArr K.1 10 (fun _ => 0)), (q5, gArr K.1 10 (fun _ => 0)), (q6, gArr K.1 200 (fun _ => 0)), (q7, gArr K.1 6 (fun _ => 0)), (q8, gArr K.2.1 40 (fun _ => 0))] H := hP
  have hD : va_D A [(h0, .inr (3, [.int 0, .ref q1, .ref q2, .ref q3, .ref q4, .ref q5, .ref q6, .ref q7, .int 0, .int 0, .null, .null, .null, .null, .int 0, .int 0, .int 0, .null, .int 0, .null, .int 0])), (q1, gArr K.2.1 10 (fun _ => 0)), (q2, gArr K.2.1 10 (fun _ => 0)), (q3, gArr K.1 10 (fun _ => 0)), (q4, gArr K.1 10 (fun _ => 0)), (q5, gArr K.1 10 (fun _ => 0)), (q6, gArr K.1 200 (fun _ => 0)), (q7, gArr K.1 6 (fun _ => 0)), (q8, gArr K.2.1 40 (fun _ => 0))] := hD
  refine va_putF (C := RX3) (T := TX3) (N := 21) (ci := 3) (ty := .array .boolean) hx hb hts hi_X3 tyX3 tyX3_ok nmX3 hown hK hP hD hS (0) (rfl) rfl 10 (by decide) (hts (.fieldLink RX3 32 "GroupSeatsModel" "isCancelled" "[Z") (by decide +kernel)) (fun _ h9 => h9) rfl hnm rfl (by decide +kernel) rfl rfl (Nat.le_of_ble_eq_true rfl) dX3_init_66 (fun H locs hP hD hS => ?_)
  have hP : va_P D vwCl [(h0, .inr (3, [.int 0, .ref q1, .ref q2, .ref q3, .ref q4, .ref q5, .ref q6, .ref q7, .int 0, .int 0, .ref q8, .null, .null, .null, .int 0, .int 0, .int 0, .null, .int 0, .null, .int 0])), (q1, gArr K.2.1 10 (fun _ => 0)), (q2, gArr K.2.1 10 (fun _ => 0)), (q3, gArr K.1 10 (fun _ => 0)), (q4, gArr K.1 10 (fun _ => 0)), (q5, gArr K.1 10 (fun _ => 0)), (q6, gArr K.1 200 (fun _ => 0)), (q7, gArr K.1 6 (fun _ => 0)), (q8, gArr K.2.1 40 (fun _ => 0))] H := hP
  have hD : va_D A [(h0, .inr (3, [.int 0, .ref q1, .ref q2, .ref q3, .ref q4, .ref q5, .ref q6, .ref q7, .int 0, .int 0, .ref q8, .null, .null, .null, .int 0, .int 0, .int 0, .null, .int 0, .null, .int 0])), (q1, gArr K.2.1 10 (fun _ => 0)), (q2, gArr K.2.1 10 (fun _ => 0)), (q3, gArr K.1 10 (fun _ => 0)), (q4, gArr K.1 10 (fun _ => 0)), (q5, gArr K.1 10 (fun _ => 0)), (q6, gArr K.1 200 (fun _ => 0)), (q7, gArr K.1 6 (fun _ => 0)), (q8, gArr K.2.1 40 (fun _ => 0))] := hD
  refine lv_aload_n hx hb dX3_init_69 rfl (lv_at hl 0 rfl) ?_
  refine lv_bipush (v := 8) hx hb dX3_init_70 (by decide) ?_
  refine g_newa (atype := .int) (ty := .int) (N' := 8) (a0 := (8, .inl (fun _ => 0))) hx hb (hts (.arrayClass .int) (by decide +kernel)) rfl hK hP hD hS hA 0 rfl (fun _ => rfl) (by decide) (by decide) (Nat.le_of_ble_eq_true rfl) (Nat.le_of_ble_eq_true rfl) (Nat.le_of_ble_eq_true rfl) dX3_init_72 (fun q9 H hP hD hS => ?_)
  have hP : va_P D vwCl [(h0, .inr (3, [.int 0, .ref q1, .ref q2, .ref q3, .ref q4, .ref q5, .ref q6, .ref q7, .int 0, .int 0, .ref q8, .null, .null, .null, .int 0, .int 0, .int 0, .null, .int 0, .null, .int 0])), (q1, gArr K.2.1 10 (fun _ => 0)), (q2, gArr K.2.1 10 (fun _ => 0)), (q3, gArr K.1 10 (fun _ => 0)), (q4, gArr K.1 10 (fun _ => 0)), (q5, gArr K.1 10 (fun _ => 0)), (q6, gArr K.1 200 (fun _ => 0)), (q7, gArr K.1 6 (fun _ => 0)), (q8, gArr K.2.1 40 (fun _ => 0)), (q9, gArr K.1 8 (fun _ => 0))] H := hP
  have hD : va_D A [(h0, .inr (3, [.int 0, .ref q1, .ref q2, .ref q3, .ref q4, .ref q5, .ref q6, .ref q7, .int 0, .int 0, .ref q8, .null, .null, .null, .int 0, .int 0, .int 0, .null, .int 0, .null, .int 0])), (q1, gArr K.2.1 10 (fun _ => 0)), (q2, gArr K.2.1 10 (fun _ => 0)), (q3, gArr K.1 10 (fun _ => 0)), (q4, gArr K.1 10 (fun _ => 0)), (q5, gArr K.1 10 (fun _ => 0)), (q6, gArr K.1 200 (fun _ => 0)), (q7, gArr K.1 6 (fun _ => 0)), (q8, gArr K.2.1 40 (fun _ => 0)), (q9, gArr K.1 8 (fun _ => 0))] := hD
  refine va_putF (C := RX3) (T := TX3) (N := 21) (ci := 3) (ty := .array .int) hx hb hts hi_X3 tyX3 tyX3_ok nmX3 hown hK hP hD hS (0) (rfl) rfl 11 (by decide) (hts (.fieldLink RX3 35 "GroupSeatsModel" "people" "[I") (by decide +kernel)) (fun _ h9 => h9) rfl hnm rfl (by decide +kernel) rfl rfl (Nat.le_of_ble_eq_true rfl) dX3_init_74 (fun H locs hP hD hS => ?_)
  have hP : va_P D vwCl [(h0, .inr (3, [.int 0, .ref q1, .ref q2, .ref q3, .ref q4, .ref q5, .ref q6, .ref q7, .int 0, .int 0, .ref q8, .ref q9, .null, .null, .int 0, .int 0, .int 0, .null, .int 0, .null, .int 0])), (q1, gArr K.2.1 10 (fun _ => 0)), (q2, gArr K.2.1 10 (fun _ => 0)), (q3, gArr K.1 10 (fun _ => 0)), (q4, gArr K.1 10 (fun _ => 0)), (q5, gArr K.1 10 (fun _ => 0)), (q6, gArr K.1 200 (fun _ => 0)), (q7, gArr K.1 6 (fun _ => 0)), (q8, gArr K.2.1 40 (fun _ => 0)), (q9, gArr K.1 8 (fun _ => 0))] H := hP
  have hD : va_D A [(h0, .inr (3, [.int 0, .ref q1, .ref q2, .ref q3, .ref q4, .ref q5, .ref q6, .ref q7, .int 0, .int 0, .ref q8, .ref q9, .null, .null, .int 0, .int 0, .int 0, .null, .int 0, .null, .int 0])), (q1, gArr K.2.1 10 (fun _ => 0)), (q2, gArr K.2.1 10 (fun _ => 0)), (q3, gArr K.1 10 (fun _ => 0)), (q4, gArr K.1 10 (fun _ => 0)), (q5, gArr K.1 10 (fun _ => 0)), (q6, gArr K.1 200 (fun _ => 0)), (q7, gArr K.1 6 (fun _ => 0)), (q8, gArr K.2.1 40 (fun _ => 0)), (q9, gArr K.1 8 (fun _ => 0))] := hD
  refine lv_aload_n hx hb dX3_init_77 rfl (lv_at hl 0 rfl) ?_
  refine lv_bipush (v := 48) hx hb dX3_init_78 (by decide) ?_
  refine g_newa (atype := .int) (ty := .int) (N' := 48) (a0 := (48, .inl (fun _ => 0))) hx hb (hts (.arrayClass .int) (by decide +kernel)) rfl hK hP hD hS hA 0 rfl (fun _ => rfl) (by decide) (by decide) (Nat.le_of_ble_eq_true rfl) (Nat.le_of_ble_eq_true rfl) (Nat.le_of_ble_eq_true rfl) dX3_init_80 (fun q10 H hP hD hS => ?_)
  have hP : va_P D vwCl [(h0, .inr (3, [.int 0, .ref q1, .ref q2, .ref q3, .ref q4, .ref q5, .ref q6, .ref q7, .int 0, .int 0, .ref q8, .ref q9, .null, .null, .int 0, .int 0, .int 0, .null, .int 0, .null, .int 0])), (q1, gArr K.2.1 10 (fun _ => 0)), (q2, gArr K.2.1 10 (fun _ => 0)), (q3, gArr K.1 10 (fun _ => 0)), (q4, gArr K.1 10 (fun _ => 0)), (q5, gArr K.1 10 (fun _ => 0)), (q6, gArr K.1 200 (fun _ => 0)), (q7, gArr K.1 6 (fun _ => 0)), (q8, gArr K.2.1 40 (fun _ => 0)), (q9, gArr K.1 8 (fun _ => 0)), (q10, gArr K.1 48 (fun _ => 0))] H := hP
  have hD : va_D A [(h0, .inr (3, [.int 0, .ref q1, .ref q2, .ref q3, .ref q4, .ref q5, .ref q6, .ref q7, .int 0, .int 0, .ref q8, .ref q9, .null, .null, .int 0, .int 0, .int 0, .null, .int 0, .null, .int 0])), (q1, gArr K.2.1 10 (fun _ => 0)), (q2, gArr K.2.1 10 (fun _ => 0)), (q3, gArr K.1 10 (fun _ => 0)), (q4, gArr K.1 10 (fun _ => 0)), (q5, gArr K.1 10 (fun _ => 0)), (q6, gArr K.1 200 (fun _ => 0)), (q7, gArr K.1 6 (fun _ => 0)), (q8, gArr K.2.1 40 (fun _ => 0)), (q9, gArr K.1 8 (fun _ => 0)), (q10, gArr K.1 48 (fun _ => 0))] := hD
  refine va_putF (C := RX3) (T := TX3) (N := 21) (ci := 3) (ty := .array .int) hx hb hts hi_X3 tyX3 tyX3_ok nmX3 hown hK hP hD hS (0) (rfl) rfl 12 (by decide) (hts (.fieldLink RX3 38 "GroupSeatsModel" "lists" "[I") (by decide +kernel)) (fun _ h9 => h9) rfl hnm rfl (by decide +kernel) rfl rfl (Nat.le_of_ble_eq_true rfl) dX3_init_82 (fun H locs hP hD hS => ?_)
  have hP : va_P D vwCl [(h0, .inr (3, [.int 0, .ref q1, .ref q2, .ref q3, .ref q4, .ref q5, .ref q6, .ref q7, .int 0, .int 0, .ref q8, .ref q9, .ref q10, .null, .int 0, .int 0, .int 0, .null, .int 0, .null, .int 0])), (q1, gArr K.2.1 10 (fun _ => 0)), (q2, gArr K.2.1 10 (fun _ => 0)), (q3, gArr K.1 10 (fun _ => 0)), (q4, gArr K.1 10 (fun _ => 0)), (q5, gArr K.1 10 (fun _ => 0)), (q6, gArr K.1 200 (fun _ => 0)), (q7, gArr K.1 6 (fun _ => 0)), (q8, gArr K.2.1 40 (fun _ => 0)), (q9, gArr K.1 8 (fun _ => 0)), (q10, gArr K.1 48 (fun _ => 0))] H := hP
  have hD : va_D A [(h0, .inr (3, [.int 0, .ref q1, .ref q2, .ref q3, .ref q4, .ref q5, .ref q6, .ref q7, .int 0, .int 0, .ref q8, .ref q9, .ref q10, .null, .int 0, .int 0, .int 0, .null, .int 0, .null, .int 0])), (q1, gArr K.2.1 10 (fun _ => 0)), (q2, gArr K.2.1 10 (fun _ => 0)), (q3, gArr K.1 10 (fun _ => 0)), (q4, gArr K.1 10 (fun _ => 0)), (q5, gArr K.1 10 (fun _ => 0)), (q6, gArr K.1 200 (fun _ => 0)), (q7, gArr K.1 6 (fun _ => 0)), (q8, gArr K.2.1 40 (fun _ => 0)), (q9, gArr K.1 8 (fun _ => 0)), (q10, gArr K.1 48 (fun _ => 0))] := hD
  refine lv_aload_n hx hb dX3_init_85 rfl (lv_at hl 0 rfl) ?_
  refine lv_bipush (v := 8) hx hb dX3_init_86 (by decide) ?_
  refine g_newa (atype := .int) (ty := .int) (N' := 8) (a0 := (8, .inl (fun _ => 0))) hx hb (hts (.arrayClass .int) (by decide +kernel)) rfl hK hP hD hS hA 0 rfl (fun _ => rfl) (by decide) (by decide) (Nat.le_of_ble_eq_true rfl) (Nat.le_of_ble_eq_true rfl) (Nat.le_of_ble_eq_true rfl) dX3_init_88 (fun q11 H hP hD hS => ?_)
  have hP : va_P D vwCl [(h0, .inr (3, [.int 0, .ref q1, .ref q2, .ref q3, .ref q4, .ref q5, .ref q6, .ref q7, .int 0, .int 0, .ref q8, .ref q9, .ref q10, .null, .int 0, .int 0, .int 0, .null, .int 0, .null, .int 0])), (q1, gArr K.2.1 10 (fun _ => 0)), (q2, gArr K.2.1 10 (fun _ => 0)), (q3, gArr K.1 10 (fun _ => 0)), (q4, gArr K.1 10 (fun _ => 0)), (q5, gArr K.1 10 (fun _ => 0)), (q6, gArr K.1 200 (fun _ => 0)), (q7, gArr K.1 6 (fun _ => 0)), (q8, gArr K.2.1 40 (fun _ => 0)), (q9, gArr K.1 8 (fun _ => 0)), (q10, gArr K.1 48 (fun _ => 0)), (q11, gArr K.1 8 (fun _ => 0))] H := hP
  have hD : va_D A [(h0, .inr (3, [.int 0, .ref q1, .ref q2, .ref q3, .ref q4, .ref q5, .ref q6, .ref q7, .int 0, .int 0, .ref q8, .ref q9, .ref q10, .null, .int 0, .int 0, .int 0, .null, .int 0, .null, .int 0])), (q1, gArr K.2.1 10 (fun _ => 0)), (q2, gArr K.2.1 10 (fun _ => 0)), (q3, gArr K.1 10 (fun _ => 0)), (q4, gArr K.1 10 (fun _ => 0)), (q5, gArr K.1 10 (fun _ => 0)), (q6, gArr K.1 200 (fun _ => 0)), (q7, gArr K.1 6 (fun _ => 0)), (q8, gArr K.2.1 40 (fun _ => 0)), (q9, gArr K.1 8 (fun _ => 0)), (q10, gArr K.1 48 (fun _ => 0)), (q11, gArr K.1 8 (fun _ => 0))] := hD
  refine va_putF (C := RX3) (T := TX3) (N := 21) (ci := 3) (ty := .array .int) hx hb hts hi_X3 tyX3 tyX3_ok nmX3 hown hK hP hD hS (0) (rfl) rfl 13 (by decide) (hts (.fieldLink RX3 41 "GroupSeatsModel" "lengths" "[I") (by decide +kernel)) (fun _ h9 => h9) rfl hnm rfl (by decide +kernel) rfl rfl (Nat.le_of_ble_eq_true rfl) dX3_init_90 (fun H locs hP hD hS => ?_)
  have hP : va_P D vwCl [(h0, .inr (3, [.int 0, .ref q1, .ref q2, .ref q3, .ref q4, .ref q5, .ref q6, .ref q7, .int 0, .int 0, .ref q8, .ref q9, .ref q10, .ref q11, .int 0, .int 0, .int 0, .null, .int 0, .null, .int 0])), (q1, gArr K.2.1 10 (fun _ => 0)), (q2, gArr K.2.1 10 (fun _ => 0)), (q3, gArr K.1 10 (fun _ => 0)), (q4, gArr K.1 10 (fun _ => 0)), (q5, gArr K.1 10 (fun _ => 0)), (q6, gArr K.1 200 (fun _ => 0)), (q7, gArr K.1 6 (fun _ => 0)), (q8, gArr K.2.1 40 (fun _ => 0)), (q9, gArr K.1 8 (fun _ => 0)), (q10, gArr K.1 48 (fun _ => 0)), (q11, gArr K.1 8 (fun _ => 0))] H := hP
  have hD : va_D A [(h0, .inr (3, [.int 0, .ref q1, .ref q2, .ref q3, .ref q4, .ref q5, .ref q6, .ref q7, .int 0, .int 0, .ref q8, .ref q9, .ref q10, .ref q11, .int 0, .int 0, .int 0, .null, .int 0, .null, .int 0])), (q1, gArr K.2.1 10 (fun _ => 0)), (q2, gArr K.2.1 10 (fun _ => 0)), (q3, gArr K.1 10 (fun _ => 0)), (q4, gArr K.1 10 (fun _ => 0)), (q5, gArr K.1 10 (fun _ => 0)), (q6, gArr K.1 200 (fun _ => 0)), (q7, gArr K.1 6 (fun _ => 0)), (q8, gArr K.2.1 40 (fun _ => 0)), (q9, gArr K.1 8 (fun _ => 0)), (q10, gArr K.1 48 (fun _ => 0)), (q11, gArr K.1 8 (fun _ => 0))] := hD
  refine lv_aload_n hx hb dX3_init_93 rfl (lv_at hl 0 rfl) ?_
  refine lv_bipush (v := 6) hx hb dX3_init_94 (by decide) ?_
  refine g_newa (atype := .int) (ty := .int) (N' := 6) (a0 := (6, .inl (fun _ => 0))) hx hb (hts (.arrayClass .int) (by decide +kernel)) rfl hK hP hD hS hA 0 rfl (fun _ => rfl) (by decide) (by decide) (Nat.le_of_ble_eq_true rfl) (Nat.le_of_ble_eq_true rfl) (Nat.le_of_ble_eq_true rfl) dX3_init_96 (fun q12 H hP hD hS => ?_)
  have hP : va_P D vwCl [(h0, .inr (3, [.int 0, .ref q1, .ref q2, .ref q3, .ref q4, .ref q5, .ref q6, .ref q7, .int 0, .int 0, .ref q8, .ref q9, .ref q10, .ref q11, .int 0, .int 0, .int 0, .null, .int 0, .null, .int 0])), (q1, gArr K.2.1 10 (fun _ => 0)), (q2, gArr K.2.1 10 (fun _ => 0)), (q3, gArr K.1 10 (fun _ => 0)), (q4, gArr K.1 10 (fun _ => 0)), (q5, gArr K.1 10 (fun _ => 0)), (q6, gArr K.1 200 (fun _ => 0)), (q7, gArr K.1 6 (fun _ => 0)), (q8, gArr K.2.1 40 (fun _ => 0)), (q9, gArr K.1 8 (fun _ => 0)), (q10, gArr K.1 48 (fun _ => 0)), (q11, gArr K.1 8 (fun _ => 0)), (q12, gArr K.1 6 (fun _ => 0))] H := hP
  have hD : va_D A [(h0, .inr (3, [.int 0, .ref q1, .ref q2, .ref q3, .ref q4, .ref q5, .ref q6, .ref q7, .int 0, .int 0, .ref q8, .ref q9, .ref q10, .ref q11, .int 0, .int 0, .int 0, .null, .int 0, .null, .int 0])), (q1, gArr K.2.1 10 (fun _ => 0)), (q2, gArr K.2.1 10 (fun _ => 0)), (q3, gArr K.1 10 (fun _ => 0)), (q4, gArr K.1 10 (fun _ => 0)), (q5, gArr K.1 10 (fun _ => 0)), (q6, gArr K.1 200 (fun _ => 0)), (q7, gArr K.1 6 (fun _ => 0)), (q8, gArr K.2.1 40 (fun _ => 0)), (q9, gArr K.1 8 (fun _ => 0)), (q10, gArr K.1 48 (fun _ => 0)), (q11, gArr K.1 8 (fun _ => 0)), (q12, gArr K.1 6 (fun _ => 0))] := hD
  refine va_putF (C := RX3) (T := TX3) (N := 21) (ci := 3) (ty := .array .int) hx hb hts hi_X3 tyX3 tyX3_ok nmX3 hown hK hP hD hS (0) (rfl) rfl 17 (by decide) (hts (.fieldLink RX3 44 "GroupSeatsModel" "way" "[I") (by decide +kernel)) (fun _ h9 => h9) rfl hnm rfl (by decide +kernel) rfl rfl (Nat.le_of_ble_eq_true rfl) dX3_init_98 (fun H locs hP hD hS => ?_)
  have hP : va_P D vwCl [(h0, .inr (3, [.int 0, .ref q1, .ref q2, .ref q3, .ref q4, .ref q5, .ref q6, .ref q7, .int 0, .int 0, .ref q8, .ref q9, .ref q10, .ref q11, .int 0, .int 0, .int 0, .ref q12, .int 0, .null, .int 0])), (q1, gArr K.2.1 10 (fun _ => 0)), (q2, gArr K.2.1 10 (fun _ => 0)), (q3, gArr K.1 10 (fun _ => 0)), (q4, gArr K.1 10 (fun _ => 0)), (q5, gArr K.1 10 (fun _ => 0)), (q6, gArr K.1 200 (fun _ => 0)), (q7, gArr K.1 6 (fun _ => 0)), (q8, gArr K.2.1 40 (fun _ => 0)), (q9, gArr K.1 8 (fun _ => 0)), (q10, gArr K.1 48 (fun _ => 0)), (q11, gArr K.1 8 (fun _ => 0)), (q12, gArr K.1 6 (fun _ => 0))] H := hP
  have hD : va_D A [(h0, .inr (3, [.int 0, .ref q1, .ref q2, .ref q3, .ref q4, .ref q5, .ref q6, .ref q7, .int 0, .int 0, .ref q8, .ref q9, .ref q10, .ref q11, .int 0, .int 0, .int 0, .ref q12, .int 0, .null, .int 0])), (q1, gArr K.2.1 10 (fun _ => 0)), (q2, gArr K.2.1 10 (fun _ => 0)), (q3, gArr K.1 10 (fun _ => 0)), (q4, gArr K.1 10 (fun _ => 0)), (q5, gArr K.1 10 (fun _ => 0)), (q6, gArr K.1 200 (fun _ => 0)), (q7, gArr K.1 6 (fun _ => 0)), (q8, gArr K.2.1 40 (fun _ => 0)), (q9, gArr K.1 8 (fun _ => 0)), (q10, gArr K.1 48 (fun _ => 0)), (q11, gArr K.1 8 (fun _ => 0)), (q12, gArr K.1 6 (fun _ => 0))] := hD
  refine lv_aload_n hx hb dX3_init_101 rfl (lv_at hl 0 rfl) ?_
  refine lv_bipush (v := 6) hx hb dX3_init_102 (by decide) ?_
  refine g_newa (atype := .int) (ty := .int) (N' := 6) (a0 := (6, .inl (fun _ => 0))) hx hb (hts (.arrayClass .int) (by decide +kernel)) rfl hK hP hD hS hA 0 rfl (fun _ => rfl) (by decide) (by decide) (Nat.le_of_ble_eq_true rfl) (Nat.le_of_ble_eq_true rfl) (Nat.le_of_ble_eq_true rfl) dX3_init_104 (fun q13 H hP hD hS => ?_)
  have hP : va_P D vwCl [(h0, .inr (3, [.int 0, .ref q1, .ref q2, .ref q3, .ref q4, .ref q5, .ref q6, .ref q7, .int 0, .int 0, .ref q8, .ref q9, .ref q10, .ref q11, .int 0, .int 0, .int 0, .ref q12, .int 0, .null, .int 0])), (q1, gArr K.2.1 10 (fun _ => 0)), (q2, gArr K.2.1 10 (fun _ => 0)), (q3, gArr K.1 10 (fun _ => 0)), (q4, gArr K.1 10 (fun _ => 0)), (q5, gArr K.1 10 (fun _ => 0)), (q6, gArr K.1 200 (fun _ => 0)), (q7, gArr K.1 6 (fun _ => 0)), (q8, gArr K.2.1 40 (fun _ => 0)), (q9, gArr K.1 8 (fun _ => 0)), (q10, gArr K.1 48 (fun _ => 0)), (q11, gArr K.1 8 (fun _ => 0)), (q12, gArr K.1 6 (fun _ => 0)), (q13, gArr K.1 6 (fun _ => 0))] H := hP
  have hD : va_D A [(h0, .inr (3, [.int 0, .ref q1, .ref q2, .ref q3, .ref q4, .ref q5, .ref q6, .ref q7, .int 0, .int 0, .ref q8, .ref q9, .ref q10, .ref q11, .int 0, .int 0, .int 0, .ref q12, .int 0, .null, .int 0])), (q1, gArr K.2.1 10 (fun _ => 0)), (q2, gArr K.2.1 10 (fun _ => 0)), (q3, gArr K.1 10 (fun _ => 0)), (q4, gArr K.1 10 (fun _ => 0)), (q5, gArr K.1 10 (fun _ => 0)), (q6, gArr K.1 200 (fun _ => 0)), (q7, gArr K.1 6 (fun _ => 0)), (q8, gArr K.2.1 40 (fun _ => 0)), (q9, gArr K.1 8 (fun _ => 0)), (q10, gArr K.1 48 (fun _ => 0)), (q11, gArr K.1 8 (fun _ => 0)), (q12, gArr K.1 6 (fun _ => 0)), (q13, gArr K.1 6 (fun _ => 0))] := hD
  refine va_putF (C := RX3) (T := TX3) (N := 21) (ci := 3) (ty := .array .int) hx hb hts hi_X3 tyX3 tyX3_ok nmX3 hown hK hP hD hS (0) (rfl) rfl 19 (by decide) (hts (.fieldLink RX3 47 "GroupSeatsModel" "taken" "[I") (by decide +kernel)) (fun _ h9 => h9) rfl hnm rfl (by decide +kernel) rfl rfl (Nat.le_of_ble_eq_true rfl) dX3_init_106 (fun H locs hP hD hS => ?_)
  have hP : va_P D vwCl [(h0, .inr (3, [.int 0, .ref q1, .ref q2, .ref q3, .ref q4, .ref q5, .ref q6, .ref q7, .int 0, .int 0, .ref q8, .ref q9, .ref q10, .ref q11, .int 0, .int 0, .int 0, .ref q12, .int 0, .ref q13, .int 0])), (q1, gArr K.2.1 10 (fun _ => 0)), (q2, gArr K.2.1 10 (fun _ => 0)), (q3, gArr K.1 10 (fun _ => 0)), (q4, gArr K.1 10 (fun _ => 0)), (q5, gArr K.1 10 (fun _ => 0)), (q6, gArr K.1 200 (fun _ => 0)), (q7, gArr K.1 6 (fun _ => 0)), (q8, gArr K.2.1 40 (fun _ => 0)), (q9, gArr K.1 8 (fun _ => 0)), (q10, gArr K.1 48 (fun _ => 0)), (q11, gArr K.1 8 (fun _ => 0)), (q12, gArr K.1 6 (fun _ => 0)), (q13, gArr K.1 6 (fun _ => 0))] H := hP
  have hD : va_D A [(h0, .inr (3, [.int 0, .ref q1, .ref q2, .ref q3, .ref q4, .ref q5, .ref q6, .ref q7, .int 0, .int 0, .ref q8, .ref q9, .ref q10, .ref q11, .int 0, .int 0, .int 0, .ref q12, .int 0, .ref q13, .int 0])), (q1, gArr K.2.1 10 (fun _ => 0)), (q2, gArr K.2.1 10 (fun _ => 0)), (q3, gArr K.1 10 (fun _ => 0)), (q4, gArr K.1 10 (fun _ => 0)), (q5, gArr K.1 10 (fun _ => 0)), (q6, gArr K.1 200 (fun _ => 0)), (q7, gArr K.1 6 (fun _ => 0)), (q8, gArr K.2.1 40 (fun _ => 0)), (q9, gArr K.1 8 (fun _ => 0)), (q10, gArr K.1 48 (fun _ => 0)), (q11, gArr K.1 8 (fun _ => 0)), (q12, gArr K.1 6 (fun _ => 0)), (q13, gArr K.1 6 (fun _ => 0))] := hD
  exact g_vret hx hb hr hlocks (Nat.le_of_ble_eq_true rfl) (Nat.le_of_ble_eq_true rfl) hK hP hD hS dX3_init_109 (⟨fun i => [h0, q1, q2, q3, q4, q5, q6, q7, q8, q9, q10, q11, q12, q13].getD i 0, rfl, rfl⟩)
/-- what the hall's constructor takes of the tables beside its words -/
def gZ (U : State) : Prop := va_AO RX1 U ∧ va_AO RX0 U ∧ va_Nw (.methodLinkNest RX2 25 yX0_init RX2) U ∧ va_Nw (.methodLinkNest RX2 30 yX1_init RX2) U
theorem gZ_call {U : State} {g : JFrame} {mk : MethodId} {a : Array Value} (h : gZ U) : gZ (U.calling g mk a) := ⟨va_AO.moved (Vm.Alike.refl U.vm) h.1, va_AO.moved (Vm.Alike.refl U.vm) h.2.1, va_Nw.same rfl rfl h.2.2.1, va_Nw.same rfl rfl h.2.2.2⟩
theorem gZ_warm {s U : State} (hW : s.WarmedH U.vm) (h : gZ s) : gZ U := ⟨h.1.moved hW.alike, h.2.1.moved hW.alike, va_Nw.warmM hW h.2.2.1, va_Nw.warmM hW h.2.2.2⟩
def gRowF (ra oa : Nat → Nat) : Nat → Nat × va_E := fun i => (ra i, gRow (oa i) 0 0 0 0)
def gParF (pa na : Nat → Nat) : Nat → Nat × va_E := fun i => (pa i, gPar (na i) 0 0 0)
def gArrF (cI : ClassId) (n : Nat) (oa : Nat → Nat) : Nat → Nat × va_E := fun i => (oa i, gArr cI n (fun _ => 0))
theorem gRowF_up {ra oa : Nat → Nat} {i q o : Nat} : va_up (gRowF ra oa) i (q, gRow o 0 0 0 0) = gRowF (va_up ra i q) (va_up oa i o) := by
  funext j
  by_cases h : j = i
  · subst h; simp [gRowF, va_up]
  · simp [gRowF, va_up, h]
theorem gParF_up {ra oa : Nat → Nat} {i q o : Nat} : va_up (gParF ra oa) i (q, gPar o 0 0 0) = gParF (va_up ra i q) (va_up oa i o) := by
  funext j
  by_cases h : j = i
  · subst h; simp [gParF, va_up]
  · simp [gParF, va_up, h]
theorem gArrF_up {cI : ClassId} {n : Nat} {oa : Nat → Nat} {i o : Nat} : va_up (gArrF cI n oa) i (o, gArr cI n (fun _ => 0)) = gArrF cI n (va_up oa i o) := by
  funext j
  by_cases h : j = i
  · subst h; simp [gArrF, va_up]
  · simp [gArrF, va_up, h]
theorem g_atlen {X r : va_W} {x : Nat × va_E} : (X ++ x :: r)[X.length]? = some x := by simp
theorem g2_cons (n : Nat) (f g : Nat → Nat × va_E) : g2 (n + 1) f g = f 0 :: g 0 :: g2 n (fun i => f (i + 1)) (fun i => g (i + 1)) := by
  apply List.ext_getElem?
  intro k
  match k with
  | 0 => simp [g2]
  | 1 => simp [g2, show 1 < 2 * (n + 1) by omega]
  | k + 2 =>
    simp only [List.getElem?_cons_succ]
    by_cases h : k < 2 * n
    · simp only [g2, List.getElem?_map, List.getElem?_range h, List.getElem?_range (show k + 2 < 2 * (n + 1) by omega), Option.map_some]
      by_cases hm : k % 2 = 0
      · rw [if_pos hm, if_pos (by omega), show (k + 2) / 2 = k / 2 + 1 by omega]
      · rw [if_neg hm, if_neg (by omega), show (k + 2) / 2 = k / 2 + 1 by omega]
    · rw [List.getElem?_eq_none (by rw [g2_len]; omega), List.getElem?_eq_none (by rw [g2_len]; omega)]
/-- the first four cells of a hall that is being made -/
def gF4 (K : gCl) (h0 a1 a2 a3 co : Nat) (i k : Nat) (ra pb : Nat → Nat) : va_W := [(h0, gObj a1 a2 a3 co 0 0 0 0), (a1, gRef K.2.2.1 10 (gRf i ra)), (a2, gArr K.2.1 40 (fun _ => 0)), (a3, gRef K.2.2.2 8 (gRf k pb))]
def gP1 (K : gCl) (co nu : Nat) : va_W := [(co, gPar nu 0 0 0), (nu, gArr K.1 6 (fun _ => 0))]
theorem g_made {K : gCl} {h0 a1 a2 a3 co nu : Nat} {ra oa pb nb : Nat → Nat} : ((gF4 K h0 a1 a2 a3 co 10 8 ra pb ++ g2 10 (gRowF ra oa) (gArrF K.1 20 oa)) ++ gP1 K co nu) ++ g2 8 (gParF pb nb) (gArrF K.1 6 nb) = gsN K h0 a1 a2 a3 ra oa (fun j => if j = 0 then co else pb (j - 1)) (fun j => if j = 0 then nu else nb (j - 1)) := by
  unfold gsN gsW
  rw [g2_cons 8]
  simp only [List.append_assoc]
  rfl
set_option maxHeartbeats 4000000 in
set_option maxRecDepth 100000 in
theorem lp_init2 {p : Program} {l : Launch} {e : Env} {s : State} {m : MethodId} {below : List Frame} {meth : Method} {c : Code} {A : Nat → Prop} {D : va_G} {K : gCl} {h0 : Nat} {ws0 : va_W}
    (I : gIn p s m meth c A yX2_init wsX2_init cX2_init 2 none ([.ref h0] : List Value).toArray D vwCl (gT K) ws0) (hZ : gZ s) (a1 a2 a3 co nu : Nat) (ra oa : Nat → Nat) :
    ∀ (k i : Nat), i + k = 8 → ∀ (pb nb : Nat → Nat) (H : Heap) (locs : List Loc), va_P D vwCl (((gF4 K h0 a1 a2 a3 co 10 i ra pb ++ g2 10 (gRowF ra oa) (gArrF K.1 20 oa)) ++ gP1 K co nu) ++ g2 i (gParF pb nb) (gArrF K.1 6 nb)) H → va_D A (((gF4 K h0 a1 a2 a3 co 10 i ra pb ++ g2 10 (gRowF ra oa) (gArrF K.1 20 oa)) ++ gP1 K co nu) ++ g2 i (gParF pb nb) (gArrF K.1 6 nb)) → va_S A s.heap H locs → ∀ (ls : Array Slot), lv_has ls 2 [(1, .int (nI i)), (0, .ref h0)] →
    W p l e { frames := 3, cells := 41, slots := 398, locals := 60 } s m ([.ref h0] : List Value).toArray below meth c H locs (25 + 2 * i) (318 + 10 * i) (MQ below (va_Qv (fun w => ∃ (a1 a2 a3 : Nat) (ra oa pa na : Nat → Nat), w = gsN K h0 a1 a2 a3 ra oa pa na) (gB D vwCl (gT K) A) A) ([.ref h0] : List Value).toArray s 41 398 A) (F0 m 70 ls []) := by
  obtain ⟨hx, hb, hr, hml, hown, hts, hlocks, hnm, hA, hK, -, -, -⟩ := I
  have hown : s.vm.findClass RX2 = some m.cls := hown
  have hi_X2 : ∀ w ∈ u_ws RX2 TX2 8, w ∈ wsX2_init := by decide +kernel
  have hi_X1 : ∀ w ∈ u_ws RX1 TX1 5, w ∈ wsX2_init := by decide +kernel
  have hi_X0 : ∀ w ∈ u_ws RX0 TX0 4, w ∈ wsX2_init := by decide +kernel
  intro k
  induction k with
  | zero =>
    intro i hi pb nb H locs hP hD hS ls hl
    have hi8 : i = 8 := by omega
    subst hi8
    refine lv_iload_n hx hb dX2_init_70 rfl (lv_at hl 0 rfl) ?_
    refine lv_bipush (v := 8) hx hb dX2_init_71 (by decide) ?_
    refine lv_icmp_ge (tgt := 95) hx hb dX2_init_73 (by decide) (fun c73 => ?_) (fun c73 => absurd (by decide) c73)
    exact g_vret hx hb hr hlocks (Nat.le_refl _) (Nat.le_refl _) hK hP hD hS dX2_init_95 ⟨a1, a2, a3, ra, oa, _, _, g_made⟩
  | succ k ih =>
    intro i hi pb nb H locs hP hD hS ls hl
    refine lv_iload_n hx hb dX2_init_70 rfl (lv_at hl 0 rfl) ?_
    refine lv_bipush (v := 8) hx hb dX2_init_71 (by decide) ?_
    refine lv_icmp_ge (tgt := 95) hx hb dX2_init_73 (by decide) (fun c73 => ?_) (fun c73 => ?_)
    · exact absurd c73 (nI_ge (b := 8) (by omega) (by decide))
    · refine lv_aload_n hx hb dX2_init_76 rfl (lv_at hl 1 rfl) ?_
      refine va_get (C := RX2) (T := TX2) (N := 8) (ci := 2) hx hb hts hi_X2 hown hK hP (0) (rfl) rfl 2 (by decide) (hts (.fieldLink RX2 21 "GroupSeats" "queue" "[LGroupSeats$Party;") (by decide +kernel)) (fun _ h9 => h9) rfl dX2_init_77 ?_
      refine lv_iload_n hx hb dX2_init_80 rfl (lv_at hl 0 rfl) ?_
      refine va_new (ci := 0) (fs := [.null, .int 0, .int 0, .int 0]) (C := RX0) (T := TX0) (N := 4) hx hb hts hi_X0 tyX0 tyX0_ok hown (hts (.classLink RX2 19 RX0) (by decide +kernel)) (hts (.instantiable RX0 4) (by decide +kernel)) (hts (.initialized RX0) (by decide +kernel)) hK hP hD hS hA rfl (fun j hj => by rcases (show j = 0 ∨ j = 1 ∨ j = 2 ∨ j = 3 by omega) with rfl | rfl | rfl | rfl <;> rfl) (show 25 + 2 * i + 1 ≤ 41 by omega) (show 318 + 10 * i + 4 ≤ 398 by omega) dX2_init_81 (fun q H hP hD hS => ?_)
      refine lv_dup hx hb dX2_init_84 rfl ?_
      have hYY := g_part (X := ((gF4 K h0 a1 a2 a3 co 10 i ra pb ++ g2 10 (gRowF ra oa) (gArrF K.1 20 oa)) ++ gP1 K co nu) ++ g2 i (gParF pb nb) (gArrF K.1 6 nb)) (Y := [(q, .inr (0, [.null, .int 0, .int 0, .int 0]))]) hP hD
      refine g_callvF (X := ((gF4 K h0 a1 a2 a3 co 10 i ra pb ++ g2 10 (gRowF ra oa) (gArrF K.1 20 oa)) ++ gP1 K co nu) ++ g2 i (gParF pb nb) (gArrF K.1 6 nb)) (Y := [(q, .inr (0, [.null, .int 0, .int 0, .int 0]))]) (va_runIN (As := []) (rest := [.ref _, .int _, .ref _]) ⟨hx, hb, hml, hown, hts⟩ (c_Party_init l D K q H.size) ⟨va_cnB 0 hts gX2_init_X0_init_n25 rfl rfl rfl hZ.2.2.1 (hts (.initialized RX0) (by decide +kernel)) (by decide +kernel) ⟨(Nat.le_of_ble_eq_true rfl), (Nat.le_of_ble_eq_true rfl)⟩, rfl, hts (.instanceMethod yX0_init) (by decide +kernel)⟩ (g_preS hK hYY.1 hYY.2) rfl rfl hl.1 rfl (lv_room (Nat.le_of_ble_eq_true rfl)) dX2_init_85 ⟨show 25 + 2 * i + 1 + 1 ≤ 41 by omega, show 318 + 10 * i + 4 + 6 ≤ 398 by omega⟩) hP hD hS hA (fun w H locs hw hP hD hS => ?_)
      obtain ⟨o, rfl⟩ := hw
      refine va_astq hx hb hK hP hD hS 3 3 (((gF4 K h0 a1 a2 a3 co 10 i ra pb ++ g2 10 (gRowF ra oa) (gArrF K.1 20 oa)) ++ gP1 K co nu) ++ g2 i (gParF pb nb) (gArrF K.1 6 nb)).length 0 rfl rfl g_atlen rfl (vp_in_nI (show i < 8 by omega) (by decide)) dX2_init_88 (fun H locs hP hD hS => ?_)
      have hP : va_P D vwCl ((((([(h0, gObj a1 a2 a3 co 0 0 0 0), (a1, gRef K.2.2.1 10 (gRf 10 ra)), (a2, gArr K.2.1 40 (fun _ => 0)), (a3, gRef K.2.2.2 8 (va_up (gRf i pb) (nI i).toNatClampNeg (some q)))] : va_W) ++ g2 10 (gRowF ra oa) (gArrF K.1 20 oa)) ++ gP1 K co nu) ++ g2 i (gParF pb nb) (gArrF K.1 6 nb)) ++ [(q, gPar o 0 0 0), (o, gArr K.1 6 (fun _ => 0))]) H := hP
      have hD : va_D A ((((([(h0, gObj a1 a2 a3 co 0 0 0 0), (a1, gRef K.2.2.1 10 (gRf 10 ra)), (a2, gArr K.2.1 40 (fun _ => 0)), (a3, gRef K.2.2.2 8 (va_up (gRf i pb) (nI i).toNatClampNeg (some q)))] : va_W) ++ g2 10 (gRowF ra oa) (gArrF K.1 20 oa)) ++ gP1 K co nu) ++ g2 i (gParF pb nb) (gArrF K.1 6 nb)) ++ [(q, gPar o 0 0 0), (o, gArr K.1 6 (fun _ => 0))]) := hD
      rw [List.append_assoc, g2_push, gParF_up, gArrF_up, nI_clamp (by omega), gRf_up] at hP hD
      have hP : va_P D vwCl (((gF4 K h0 a1 a2 a3 co 10 (i + 1) ra (va_up pb i q) ++ g2 10 (gRowF ra oa) (gArrF K.1 20 oa)) ++ gP1 K co nu) ++ g2 (i + 1) (gParF (va_up pb i q) (va_up nb i o)) (gArrF K.1 6 (va_up nb i o))) H := hP
      have hD : va_D A (((gF4 K h0 a1 a2 a3 co 10 (i + 1) ra (va_up pb i q) ++ g2 10 (gRowF ra oa) (gArrF K.1 20 oa)) ++ gP1 K co nu) ++ g2 (i + 1) (gParF (va_up pb i q) (va_up nb i o)) (gArrF K.1 6 (va_up nb i o))) := hD
      refine lv_iinc (lv' := [(1, .int _), (0, .ref _)]) hx hb dX2_init_89 hl (k := 0) rfl rfl (by decide) rfl (fun ls hl => ?_)
      refine lv_goto (tgt := 70) hx hb dX2_init_92 (by decide) ?_
      rw [g_inc] at hl
      refine W.widen (k := 25 + 2 * (i + 1)) (n := 318 + 10 * (i + 1)) (by omega) (by omega) ?_
      exact ih (i + 1) (by omega) (va_up pb i q) (va_up nb i o) H locs hP hD hS ls (lv_sub hl [0, 1] rfl)
set_option maxHeartbeats 4000000 in
set_option maxRecDepth 100000 in
theorem lp_init1 {p : Program} {l : Launch} {e : Env} {s : State} {m : MethodId} {below : List Frame} {meth : Method} {c : Code} {A : Nat → Prop} {D : va_G} {K : gCl} {h0 : Nat} {ws0 : va_W}
    (I : gIn p s m meth c A yX2_init wsX2_init cX2_init 2 none ([.ref h0] : List Value).toArray D vwCl (gT K) ws0) (hZ : gZ s) (a1 a2 a3 co nu : Nat) (pb : Nat → Nat) :
    ∀ (k i : Nat), i + k = 10 → ∀ (ra oa : Nat → Nat) (H : Heap) (locs : List Loc), va_P D vwCl ((gF4 K h0 a1 a2 a3 co i 0 ra pb ++ gP1 K co nu) ++ g2 i (gRowF ra oa) (gArrF K.1 20 oa)) H → va_D A ((gF4 K h0 a1 a2 a3 co i 0 ra pb ++ gP1 K co nu) ++ g2 i (gRowF ra oa) (gArrF K.1 20 oa)) → va_S A s.heap H locs → ∀ (ls : Array Slot), lv_has ls 2 [(1, .int (nI i)), (0, .ref h0)] →
    W p l e { frames := 3, cells := 41, slots := 398, locals := 60 } s m ([.ref h0] : List Value).toArray below meth c H locs (5 + 2 * i) (68 + 25 * i) (MQ below (va_Qv (fun w => ∃ (a1 a2 a3 : Nat) (ra oa pa na : Nat → Nat), w = gsN K h0 a1 a2 a3 ra oa pa na) (gB D vwCl (gT K) A) A) ([.ref h0] : List Value).toArray s 41 398 A) (F0 m 43 ls []) := by
  have I0 := I
  obtain ⟨hx, hb, hr, hml, hown, hts, hlocks, hnm, hA, hK, -, -, -⟩ := I
  have hown : s.vm.findClass RX2 = some m.cls := hown
  have hi_X2 : ∀ w ∈ u_ws RX2 TX2 8, w ∈ wsX2_init := by decide +kernel
  have hi_X1 : ∀ w ∈ u_ws RX1 TX1 5, w ∈ wsX2_init := by decide +kernel
  have hi_X0 : ∀ w ∈ u_ws RX0 TX0 4, w ∈ wsX2_init := by decide +kernel
  intro k
  induction k with
  | zero =>
    intro i hi ra oa H locs hP hD hS ls hl
    have hi10 : i = 10 := by omega
    subst hi10
    refine lv_iload_n hx hb dX2_init_43 rfl (lv_at hl 0 rfl) ?_
    refine lv_bipush (v := 10) hx hb dX2_init_44 (by decide) ?_
    refine lv_icmp_ge (tgt := 68) hx hb dX2_init_46 (by decide) (fun c46 => ?_) (fun c46 => absurd (by decide) c46)
    refine lv_iconst (v := 0) hx hb dX2_init_68 (by decide) ?_
    refine lv_istore_n (lv' := [(1, .int _), (0, .ref _)]) hx hb dX2_init_69 rfl hl (by decide) rfl (fun ls hl => ?_)
    have hP := va_P.swap hP
    have hD := va_D.swap hD
    exact lp_init2 I0 hZ a1 a2 a3 co nu ra oa 8 0 rfl pb pb H locs (by rw [g2_0, List.append_nil]; exact hP) (by rw [g2_0, List.append_nil]; exact hD) hS ls (lv_sub hl [0, 1] rfl)
  | succ k ih =>
    intro i hi ra oa H locs hP hD hS ls hl
    refine lv_iload_n hx hb dX2_init_43 rfl (lv_at hl 0 rfl) ?_
    refine lv_bipush (v := 10) hx hb dX2_init_44 (by decide) ?_
    refine lv_icmp_ge (tgt := 68) hx hb dX2_init_46 (by decide) (fun c46 => ?_) (fun c46 => ?_)
    · exact absurd c46 (nI_ge (b := 10) (by omega) (by decide))
    · refine lv_aload_n hx hb dX2_init_49 rfl (lv_at hl 1 rfl) ?_
      refine va_get (C := RX2) (T := TX2) (N := 8) (ci := 2) hx hb hts hi_X2 hown hK hP (0) (rfl) rfl 0 (by decide) (hts (.fieldLink RX2 11 "GroupSeats" "rows" "[LGroupSeats$Row;") (by decide +kernel)) (fun _ h9 => h9) rfl dX2_init_50 ?_
      refine lv_iload_n hx hb dX2_init_53 rfl (lv_at hl 0 rfl) ?_
      refine va_new (ci := 1) (fs := [.null, .int 0, .int 0, .int 0, .int 0]) (C := RX1) (T := TX1) (N := 5) hx hb hts hi_X1 tyX1 tyX1_ok hown (hts (.classLink RX2 9 RX1) (by decide +kernel)) (hts (.instantiable RX1 5) (by decide +kernel)) (hts (.initialized RX1) (by decide +kernel)) hK hP hD hS hA rfl (fun j hj => by rcases (show j = 0 ∨ j = 1 ∨ j = 2 ∨ j = 3 ∨ j = 4 by omega) with rfl | rfl | rfl | rfl | rfl <;> rfl) (show 5 + 2 * i + 1 ≤ 41 by omega) (show 68 + 25 * i + 5 ≤ 398 by omega) dX2_init_54 (fun q H hP hD hS => ?_)
      refine lv_dup hx hb dX2_init_57 rfl ?_
      have hYY := g_part (X := (gF4 K h0 a1 a2 a3 co i 0 ra pb ++ gP1 K co nu) ++ g2 i (gRowF ra oa) (gArrF K.1 20 oa)) (Y := [(q, .inr (1, [.null, .int 0, .int 0, .int 0, .int 0]))]) hP hD
      refine g_callvF (X := (gF4 K h0 a1 a2 a3 co i 0 ra pb ++ gP1 K co nu) ++ g2 i (gRowF ra oa) (gArrF K.1 20 oa)) (Y := [(q, .inr (1, [.null, .int 0, .int 0, .int 0, .int 0]))]) (va_runIN (As := []) (rest := [.ref _, .int _, .ref _]) ⟨hx, hb, hml, hown, hts⟩ (c_Row_init l D K q H.size) ⟨va_cnB 0 hts gX2_init_X1_init_n30 rfl rfl rfl hZ.2.2.2 (hts (.initialized RX1) (by decide +kernel)) (by decide +kernel) ⟨(Nat.le_of_ble_eq_true rfl), (Nat.le_of_ble_eq_true rfl)⟩, rfl, hts (.instanceMethod yX1_init) (by decide +kernel)⟩ (g_preS hK hYY.1 hYY.2) rfl rfl hl.1 rfl (lv_room (Nat.le_of_ble_eq_true rfl)) dX2_init_58 ⟨show 5 + 2 * i + 1 + 1 ≤ 41 by omega, show 68 + 25 * i + 5 + 20 ≤ 398 by omega⟩) hP hD hS hA (fun w H locs hw hP hD hS => ?_)
      obtain ⟨o, rfl⟩ := hw
      refine va_astq hx hb hK hP hD hS 1 2 ((gF4 K h0 a1 a2 a3 co i 0 ra pb ++ gP1 K co nu) ++ g2 i (gRowF ra oa) (gArrF K.1 20 oa)).length 1 rfl rfl g_atlen rfl (vp_in_nI (show i < 10 by omega) (by decide)) dX2_init_61 (fun H locs hP hD hS => ?_)
      have hP : va_P D vwCl (((([(h0, gObj a1 a2 a3 co 0 0 0 0), (a1, gRef K.2.2.1 10 (va_up (gRf i ra) (nI i).toNatClampNeg (some q))), (a2, gArr K.2.1 40 (fun _ => 0)), (a3, gRef K.2.2.2 8 (gRf 0 pb))] : va_W) ++ gP1 K co nu) ++ g2 i (gRowF ra oa) (gArrF K.1 20 oa)) ++ [(q, gRow o 0 0 0 0), (o, gArr K.1 20 (fun _ => 0))]) H := hP
      have hD : va_D A (((([(h0, gObj a1 a2 a3 co 0 0 0 0), (a1, gRef K.2.2.1 10 (va_up (gRf i ra) (nI i).toNatClampNeg (some q))), (a2, gArr K.2.1 40 (fun _ => 0)), (a3, gRef K.2.2.2 8 (gRf 0 pb))] : va_W) ++ gP1 K co nu) ++ g2 i (gRowF ra oa) (gArrF K.1 20 oa)) ++ [(q, gRow o 0 0 0 0), (o, gArr K.1 20 (fun _ => 0))]) := hD
      rw [List.append_assoc, g2_push, gRowF_up, gArrF_up, nI_clamp (by omega), gRf_up] at hP hD
      have hP : va_P D vwCl ((gF4 K h0 a1 a2 a3 co (i + 1) 0 (va_up ra i q) pb ++ gP1 K co nu) ++ g2 (i + 1) (gRowF (va_up ra i q) (va_up oa i o)) (gArrF K.1 20 (va_up oa i o))) H := hP
      have hD : va_D A ((gF4 K h0 a1 a2 a3 co (i + 1) 0 (va_up ra i q) pb ++ gP1 K co nu) ++ g2 (i + 1) (gRowF (va_up ra i q) (va_up oa i o)) (gArrF K.1 20 (va_up oa i o))) := hD
      refine lv_iinc (lv' := [(1, .int _), (0, .ref _)]) hx hb dX2_init_62 hl (k := 0) rfl rfl (by decide) rfl (fun ls hl => ?_)
      refine lv_goto (tgt := 43) hx hb dX2_init_65 (by decide) ?_
      rw [g_inc] at hl
      refine W.widen (k := 5 + 2 * (i + 1)) (n := 68 + 25 * (i + 1)) (by omega) (by omega) ?_
      exact ih (i + 1) (by omega) (va_up ra i q) (va_up oa i o) H locs hP hD hS ls (lv_sub hl [0, 1] rfl)
set_option maxHeartbeats 4000000 in
set_option maxRecDepth 100000 in
/-- new GroupSeats() -/
theorem c_init (l : Launch) (D : va_G) (K : gCl) (h0 : Nat) (sz : Nat) : Met l yX2_init wsX2_init ({ frames := 3, cells := 41, slots := 398, locals := 60 } : Room) (va_Pc [.ref h0] (fun U => gPre D vwCl (gT K) [(h0, .inr (2, [.null, .null, .null, .null, .int 0, .int 0, .int 0, .int 0]))] sz U ∧ gZ U)) (va_Qv (fun w => ∃ (a1 a2 a3 : Nat) (ra oa pa na : Nat → Nat), w = gsN K h0 a1 a2 a3 ra oa pa na) (gB D vwCl (gT K) (va_A [(h0, .inr (2, [.null, .null, .null, .null, .int 0, .int 0, .int 0, .int 0]))] sz)) (va_A [(h0, .inr (2, [.null, .null, .null, .null, .int 0, .int 0, .int 0, .int 0]))] sz)) 41 398 (va_A [(h0, .inr (2, [.null, .null, .null, .null, .int 0, .int 0, .int 0, .int 0]))] sz) := by
  refine g_ofZ (cc := cX2_init) (maxL := 2) (ret := none) (Qc := fun A => va_Qv (fun w => ∃ (a1 a2 a3 : Nat) (ra oa pa na : Nat → Nat), w = gsN K h0 a1 a2 a3 ra oa pa na) (gB D vwCl (gT K) A) A) (by decide) rfl (Nat.le_of_ble_eq_true rfl) ?_
  intro p e s m below meth c A ls I hZ hl
  have I0 := I
  obtain ⟨hx, hb, hr, hml, hown, hts, hlocks, hnm, hA, hK, hP, hD, hS⟩ := I
  have hown : s.vm.findClass RX2 = some m.cls := hown
  have hl : lv_has ls 2 [(0, .ref h0)] := hl
  have hi_X2 : ∀ w ∈ u_ws RX2 TX2 8, w ∈ wsX2_init := by decide +kernel
  have hi_X0 : ∀ w ∈ u_ws RX0 TX0 4, w ∈ wsX2_init := by decide +kernel
  have hoi : Cond.code objectInit ⟨#[0xb1]⟩ 1 none ∈ wsX2_init := List.mem_cons_of_mem _ (List.mem_append_left _ (List.mem_append_left _ (List.mem_append_left _ (List.mem_of_getElem? (i := 2) rfl))))
  refine lv_aload_n hx hb dX2_init_0 rfl (lv_at hl 0 rfl) ?_
  refine W.objInit hx hb hown (hts (.methodLink RX2 1 objectInit) (by decide +kernel)) (hts (.instanceMethod objectInit) (by decide +kernel)) (hts _ hoi) rfl (by rw [hml]; exact hl.1) rfl dX2_init_1 (Nat.le_of_ble_eq_true rfl) (Nat.le_of_ble_eq_true rfl) ?_
  refine W.eq (g2 := F0 m 4 ls []) rfl ?_
  refine lv_aload_n hx hb dX2_init_4 rfl (lv_at hl 0 rfl) ?_
  refine lv_bipush (v := 10) hx hb dX2_init_5 (by decide) ?_
  refine g_newq (C := RX1) (N' := 10) hx hb hown (hts (.classLink RX2 9 RX1) (by decide +kernel)) hZ.1 hK hP hD hS hA 2 rfl (by decide) (by decide) (Nat.le_of_ble_eq_true rfl) (Nat.le_of_ble_eq_true rfl) (Nat.le_of_ble_eq_true rfl) dX2_init_7 (fun a1 H hP hD hS => ?_)
  have hP : va_P D vwCl ([(h0, .inr (2, [.null, .null, .null, .null, .int 0, .int 0, .int 0, .int 0])), (a1, gRef K.2.2.1 10 (fun _ => none))]) H := hP
  have hD : va_D A ([(h0, .inr (2, [.null, .null, .null, .null, .int 0, .int 0, .int 0, .int 0])), (a1, gRef K.2.2.1 10 (fun _ => none))]) := hD
  refine va_putF (C := RX2) (T := TX2) (N := 8) (ci := 2) (ty := .array (.object "GroupSeats$Row")) hx hb hts hi_X2 tyX2 tyX2_ok nmX2 hown hK hP hD hS (0) (rfl) rfl 0 (by decide) (hts (.fieldLink RX2 11 "GroupSeats" "rows" "[LGroupSeats$Row;") (by decide +kernel)) (fun _ h9 => h9) rfl hnm rfl (by decide +kernel) rfl rfl (Nat.le_of_ble_eq_true rfl) dX2_init_10 (fun H locs hP hD hS => ?_)
  have hP : va_P D vwCl ([(h0, .inr (2, [.ref a1, .null, .null, .null, .int 0, .int 0, .int 0, .int 0])), (a1, gRef K.2.2.1 10 (fun _ => none))]) H := hP
  have hD : va_D A ([(h0, .inr (2, [.ref a1, .null, .null, .null, .int 0, .int 0, .int 0, .int 0])), (a1, gRef K.2.2.1 10 (fun _ => none))]) := hD
  refine lv_aload_n hx hb dX2_init_13 rfl (lv_at hl 0 rfl) ?_
  refine lv_bipush (v := 40) hx hb dX2_init_14 (by decide) ?_
  refine g_newa (atype := .boolean) (ty := .boolean) (N' := 40) (a0 := (40, .inl (fun _ => 0))) hx hb (hts (.arrayClass .boolean) (by decide +kernel)) rfl hK hP hD hS hA 1 rfl (fun _ => rfl) (by decide) (by decide) (Nat.le_of_ble_eq_true rfl) (Nat.le_of_ble_eq_true rfl) (Nat.le_of_ble_eq_true rfl) dX2_init_16 (fun a2 H hP hD hS => ?_)
  have hP : va_P D vwCl ([(h0, .inr (2, [.ref a1, .null, .null, .null, .int 0, .int 0, .int 0, .int 0])), (a1, gRef K.2.2.1 10 (fun _ => none)), (a2, gArr K.2.1 40 (fun _ => 0))]) H := hP
  have hD : va_D A ([(h0, .inr (2, [.ref a1, .null, .null, .null, .int 0, .int 0, .int 0, .int 0])), (a1, gRef K.2.2.1 10 (fun _ => none)), (a2, gArr K.2.1 40 (fun _ => 0))]) := hD
  refine va_putF (C := RX2) (T := TX2) (N := 8) (ci := 2) (ty := .array .boolean) hx hb hts hi_X2 tyX2 tyX2_ok nmX2 hown hK hP hD hS (0) (rfl) rfl 1 (by decide) (hts (.fieldLink RX2 15 "GroupSeats" "cancelled" "[Z") (by decide +kernel)) (fun _ h9 => h9) rfl hnm rfl (by decide +kernel) rfl rfl (Nat.le_of_ble_eq_true rfl) dX2_init_18 (fun H locs hP hD hS => ?_)
  have hP : va_P D vwCl ([(h0, .inr (2, [.ref a1, .ref a2, .null, .null, .int 0, .int 0, .int 0, .int 0])), (a1, gRef K.2.2.1 10 (fun _ => none)), (a2, gArr K.2.1 40 (fun _ => 0))]) H := hP
  have hD : va_D A ([(h0, .inr (2, [.ref a1, .ref a2, .null, .null, .int 0, .int 0, .int 0, .int 0])), (a1, gRef K.2.2.1 10 (fun _ => none)), (a2, gArr K.2.1 40 (fun _ => 0))]) := hD
  refine lv_aload_n hx hb dX2_init_21 rfl (lv_at hl 0 rfl) ?_
  refine lv_bipush (v := 8) hx hb dX2_init_22 (by decide) ?_
  refine g_newq (C := RX0) (N' := 8) hx hb hown (hts (.classLink RX2 19 RX0) (by decide +kernel)) hZ.2.1 hK hP hD hS hA 3 rfl (by decide) (by decide) (Nat.le_of_ble_eq_true rfl) (Nat.le_of_ble_eq_true rfl) (Nat.le_of_ble_eq_true rfl) dX2_init_24 (fun a3 H hP hD hS => ?_)
  have hP : va_P D vwCl ([(h0, .inr (2, [.ref a1, .ref a2, .null, .null, .int 0, .int 0, .int 0, .int 0])), (a1, gRef K.2.2.1 10 (fun _ => none)), (a2, gArr K.2.1 40 (fun _ => 0)), (a3, gRef K.2.2.2 8 (fun _ => none))]) H := hP
  have hD : va_D A ([(h0, .inr (2, [.ref a1, .ref a2, .null, .null, .int 0, .int 0, .int 0, .int 0])), (a1, gRef K.2.2.1 10 (fun _ => none)), (a2, gArr K.2.1 40 (fun _ => 0)), (a3, gRef K.2.2.2 8 (fun _ => none))]) := hD
  refine va_putF (C := RX2) (T := TX2) (N := 8) (ci := 2) (ty := .array (.object "GroupSeats$Party")) hx hb hts hi_X2 tyX2 tyX2_ok nmX2 hown hK hP hD hS (0) (rfl) rfl 2 (by decide) (hts (.fieldLink RX2 21 "GroupSeats" "queue" "[LGroupSeats$Party;") (by decide +kernel)) (fun _ h9 => h9) rfl hnm rfl (by decide +kernel) rfl rfl (Nat.le_of_ble_eq_true rfl) dX2_init_27 (fun H locs hP hD hS => ?_)
  have hP : va_P D vwCl ([(h0, .inr (2, [.ref a1, .ref a2, .ref a3, .null, .int 0, .int 0, .int 0, .int 0])), (a1, gRef K.2.2.1 10 (fun _ => none)), (a2, gArr K.2.1 40 (fun _ => 0)), (a3, gRef K.2.2.2 8 (fun _ => none))]) H := hP
  have hD : va_D A ([(h0, .inr (2, [.ref a1, .ref a2, .ref a3, .null, .int 0, .int 0, .int 0, .int 0])), (a1, gRef K.2.2.1 10 (fun _ => none)), (a2, gArr K.2.1 40 (fun _ => 0)), (a3, gRef K.2.2.2 8 (fun _ => none))]) := hD
  refine lv_aload_n hx hb dX2_init_30 rfl (lv_at hl 0 rfl) ?_
  refine va_new (ci := 0) (fs := [.null, .int 0, .int 0, .int 0]) (C := RX0) (T := TX0) (N := 4) hx hb hts hi_X0 tyX0 tyX0_ok hown (hts (.classLink RX2 19 RX0) (by decide +kernel)) (hts (.instantiable RX0 4) (by decide +kernel)) (hts (.initialized RX0) (by decide +kernel)) hK hP hD hS hA rfl (fun j hj => by rcases (show j = 0 ∨ j = 1 ∨ j = 2 ∨ j = 3 by omega) with rfl | rfl | rfl | rfl <;> rfl) (Nat.le_of_ble_eq_true rfl) (Nat.le_of_ble_eq_true rfl) dX2_init_31 (fun co H hP hD hS => ?_)
  refine lv_dup hx hb dX2_init_34 rfl ?_
  have hYY := g_part (X := [(h0, .inr (2, [.ref a1, .ref a2, .ref a3, .null, .int 0, .int 0, .int 0, .int 0])), (a1, gRef K.2.2.1 10 (fun _ => none)), (a2, gArr K.2.1 40 (fun _ => 0)), (a3, gRef K.2.2.2 8 (fun _ => none))]) (Y := [(co, .inr (0, [.null, .int 0, .int 0, .int 0]))]) hP hD
  refine g_callvF (X := [(h0, .inr (2, [.ref a1, .ref a2, .ref a3, .null, .int 0, .int 0, .int 0, .int 0])), (a1, gRef K.2.2.1 10 (fun _ => none)), (a2, gArr K.2.1 40 (fun _ => 0)), (a3, gRef K.2.2.2 8 (fun _ => none))]) (Y := [(co, .inr (0, [.null, .int 0, .int 0, .int 0]))]) (va_runIN (As := []) (rest := [.ref _, .ref _]) ⟨hx, hb, hml, hown, hts⟩ (c_Party_init l D K co H.size) ⟨va_cnB 0 hts gX2_init_X0_init_n25 rfl rfl rfl hZ.2.2.1 (hts (.initialized RX0) (by decide +kernel)) (by decide +kernel) ⟨(Nat.le_of_ble_eq_true rfl), (Nat.le_of_ble_eq_true rfl)⟩, rfl, hts (.instanceMethod yX0_init) (by decide +kernel)⟩ (g_preS hK hYY.1 hYY.2) rfl rfl hl.1 rfl (lv_room (Nat.le_of_ble_eq_true rfl)) dX2_init_35 ⟨(Nat.le_of_ble_eq_true rfl), (Nat.le_of_ble_eq_true rfl)⟩) hP hD hS hA (fun w H locs hw hP hD hS => ?_)
  obtain ⟨nu, rfl⟩ := hw
  have hP : va_P D vwCl ([(h0, .inr (2, [.ref a1, .ref a2, .ref a3, .null, .int 0, .int 0, .int 0, .int 0])), (a1, gRef K.2.2.1 10 (fun _ => none)), (a2, gArr K.2.1 40 (fun _ => 0)), (a3, gRef K.2.2.2 8 (fun _ => none)), (co, gPar nu 0 0 0), (nu, gArr K.1 6 (fun _ => 0))]) H := hP
  have hD : va_D A ([(h0, .inr (2, [.ref a1, .ref a2, .ref a3, .null, .int 0, .int 0, .int 0, .int 0])), (a1, gRef K.2.2.1 10 (fun _ => none)), (a2, gArr K.2.1 40 (fun _ => 0)), (a3, gRef K.2.2.2 8 (fun _ => none)), (co, gPar nu 0 0 0), (nu, gArr K.1 6 (fun _ => 0))]) := hD
  refine va_put (C := RX2) (T := TX2) (N := 8) (ci := 2) (ty := .object "GroupSeats$Party") hx hb hts hi_X2 tyX2 tyX2_ok nmX2 hown hK hP hD hS (0) (rfl) rfl 3 (by decide) (hts (.fieldLink RX2 26 "GroupSeats" "coming" "LGroupSeats$Party;") (by decide +kernel)) (fun _ h9 => h9) rfl (by decide +kernel) rfl rfl (Nat.le_of_ble_eq_true rfl) dX2_init_38 (fun H locs hP hD hS => ?_)
  have hP : va_P D vwCl ([(h0, .inr (2, [.ref a1, .ref a2, .ref a3, .ref co, .int 0, .int 0, .int 0, .int 0])), (a1, gRef K.2.2.1 10 (fun _ => none)), (a2, gArr K.2.1 40 (fun _ => 0)), (a3, gRef K.2.2.2 8 (fun _ => none)), (co, gPar nu 0 0 0), (nu, gArr K.1 6 (fun _ => 0))]) H := hP
  have hD : va_D A ([(h0, .inr (2, [.ref a1, .ref a2, .ref a3, .ref co, .int 0, .int 0, .int 0, .int 0])), (a1, gRef K.2.2.1 10 (fun _ => none)), (a2, gArr K.2.1 40 (fun _ => 0)), (a3, gRef K.2.2.2 8 (fun _ => none)), (co, gPar nu 0 0 0), (nu, gArr K.1 6 (fun _ => 0))]) := hD
  refine lv_iconst (v := 0) hx hb dX2_init_41 (by decide) ?_
  refine lv_istore_n (lv' := [(1, .int _), (0, .ref _)]) hx hb dX2_init_42 rfl hl (by decide) rfl (fun ls hl => ?_)
  rw [gRf_0 (fun _ => 0)] at hP hD
  exact lp_init1 I0 hZ a1 a2 a3 co nu (fun _ => 0) 10 0 rfl (fun _ => 0) (fun _ => 0) H locs hP hD hS ls (lv_sub hl [0, 1] rfl)
end
section
/-! PURE WORDS: seats of a row as f : Nat → Int32; a free one is -8 -/
def cntV (f : Nat → Int32) (v : Int32) : Nat → Nat
  | 0 => 0
  | n + 1 => cntV f v n + (if f n = v then 1 else 0)
theorem cntV_le (f : Nat → Int32) (v : Int32) : ∀ n, cntV f v n ≤ n
  | 0 => Nat.le_refl 0
  | n + 1 => by
    have := cntV_le f v n
    unfold cntV
    split <;> omega
def freeV (f : Nat → Int32) (v : Int32) (n : Nat) : Nat → Int32 := fun j => if j < n ∧ f j = v then -8 else f j
theorem freeV_0 (f : Nat → Int32) (v : Int32) : freeV f v 0 = f := by funext j; simp [freeV]
theorem freeV_at (f : Nat → Int32) (v : Int32) (n : Nat) : freeV f v n n = f n := by simp [freeV]
theorem freeV_yes {f : Nat → Int32} {v : Int32} {n : Nat} (h : f n = v) : upd (freeV f v n) n (-8) = freeV f v (n + 1) := by
  funext j
  by_cases hj : j = n
  · subst hj
    simp [upd, freeV, h]
  · by_cases h2 : j < n
    · simp [upd, freeV, hj, h2, show j < n + 1 by omega]
    · simp [upd, freeV, hj, h2, show ¬ j < n + 1 by omega]
theorem freeV_no {f : Nat → Int32} {v : Int32} {n : Nat} (h : f n ≠ v) : freeV f v n = freeV f v (n + 1) := by
  funext j
  by_cases hj : j = n
  · subst hj
    simp [freeV, h]
  · by_cases h2 : j < n
    · simp [freeV, h2, show j < n + 1 by omega]
    · simp [freeV, h2, show ¬ j < n + 1 by omega]
/-- how many free seats stand side by side from i on, n seats being left -/
def runL (f : Nat → Int32) : Nat → Nat → Nat
  | 0, _ => 0
  | n + 1, i => if f i = -8 then runL f n (i + 1) + 1 else 0
theorem runL_le (f : Nat → Int32) : ∀ n i, runL f n i ≤ n
  | 0, _ => Nat.le_refl 0
  | n + 1, i => by
    have := runL_le f n (i + 1)
    unfold runL
    split <;> omega
theorem runL_free (f : Nat → Int32) : ∀ n i k, i ≤ k → k < i + runL f n i → f k = -8
  | 0, i, k, h1, h2 => by unfold runL at h2; omega
  | n + 1, i, k, h1, h2 => by
    unfold runL at h2
    split at h2
    · rename_i hf
      by_cases hk : k = i
      · rw [hk]; exact hf
      · exact runL_free f n (i + 1) k (by omega) (by omega)
    · omega
theorem runL_ge (f : Nat → Int32) : ∀ n i m, m ≤ n → (∀ k, i ≤ k → k < i + m → f k = -8) → m ≤ runL f n i
  | 0, i, m, h1, _ => by unfold runL; omega
  | n + 1, i, m, h1, h2 => by
    match m with
    | 0 => exact Nat.zero_le _
    | m + 1 =>
      unfold runL
      rw [if_pos (h2 i (Nat.le_refl i) (by omega))]
      have := runL_ge f n (i + 1) m (by omega) (fun k a b => h2 k (by omega) (by omega))
      omega
theorem runL_lt {f : Nat → Int32} {n i j : Nat} (h1 : i ≤ j) (h : f j ≠ -8) : runL f n i ≤ j - i := by
  rcases Nat.lt_or_ge (j - i) (runL f n i) with q | q
  · exact absurd (runL_free f n i j h1 (by omega)) h
  · exact q
theorem runL_congr {f g : Nat → Int32} : ∀ n i, (∀ k, i ≤ k → f k = g k) → runL f n i = runL g n i
  | 0, _, _ => rfl
  | n + 1, i, h => by
    unfold runL
    rw [h i (Nat.le_refl i), runL_congr n (i + 1) (fun k hk => h k (by omega))]
/-- the first c free seats from i on, n seats being left, go to b -/
def mkF (b : Int32) : Nat → Nat → Nat → (Nat → Int32) → (Nat → Int32)
  | 0, _, _, f => f
  | n + 1, i, c, f => if c = 0 then f else if f i = -8 then mkF b n (i + 1) (c - 1) (upd f i b) else mkF b n (i + 1) c f
def mkC (f : Nat → Int32) : Nat → Nat → Nat → Nat
  | 0, _, _ => 0
  | n + 1, i, c => if c = 0 then 0 else if f i = -8 then mkC f n (i + 1) (c - 1) + 1 else mkC f n (i + 1) c
def mkT (f : Nat → Int32) : Nat → Nat → Nat → Nat → Nat
  | 0, _, _, t => t
  | n + 1, i, c, t => if c = 0 then t else if f i = -8 then mkT f n (i + 1) (c - 1) (t + 2 ^ i) else mkT f n (i + 1) c t
theorem mkF_0 {b : Int32} {n i : Nat} {f : Nat → Int32} : mkF b n i 0 f = f := by cases n <;> simp [mkF]
theorem mkC_0 {n i : Nat} {f : Nat → Int32} : mkC f n i 0 = 0 := by cases n <;> simp [mkC]
theorem mkT_0 {n i t : Nat} {f : Nat → Int32} : mkT f n i 0 t = t := by cases n <;> simp [mkT]
theorem mkC_congr {f g : Nat → Int32} : ∀ n i c, (∀ k, i ≤ k → f k = g k) → mkC f n i c = mkC g n i c
  | 0, _, _, _ => rfl
  | n + 1, i, c, h => by
    unfold mkC
    rw [h i (Nat.le_refl i), mkC_congr n (i + 1) (c - 1) (fun k hk => h k (by omega)), mkC_congr n (i + 1) c (fun k hk => h k (by omega))]
theorem mkT_congr {f g : Nat → Int32} : ∀ n i c t, (∀ k, i ≤ k → f k = g k) → mkT f n i c t = mkT g n i c t
  | 0, _, _, _, _ => rfl
  | n + 1, i, c, t, h => by
    unfold mkT
    rw [h i (Nat.le_refl i), mkT_congr n (i + 1) (c - 1) (t + 2 ^ i) (fun k hk => h k (by omega)), mkT_congr n (i + 1) c t (fun k hk => h k (by omega))]
theorem upd_after {f : Nat → Int32} {i : Nat} {b : Int32} : ∀ k, i + 1 ≤ k → upd f i b k = f k := fun k hk => by simp [upd, show k ≠ i by omega]
theorem mkC_le (f : Nat → Int32) : ∀ n i c, mkC f n i c ≤ c
  | 0, _, _ => Nat.zero_le _
  | n + 1, i, c => by
    unfold mkC
    have h1 := mkC_le f n (i + 1) (c - 1)
    have h2 := mkC_le f n (i + 1) c
    split
    · omega
    · split <;> omega
/-- what is given was free, and lies in reach; all else stays -/
theorem mkF_at (b : Int32) : ∀ n i c (f : Nat → Int32) j, mkF b n i c f j = f j ∨ (mkF b n i c f j = b ∧ f j = -8 ∧ i ≤ j ∧ j < i + n)
  | 0, _, _, _, _ => Or.inl rfl
  | n + 1, i, c, f, j => by
    unfold mkF
    split
    · exact Or.inl rfl
    · split
      · rename_i hf
        rcases mkF_at b n (i + 1) (c - 1) (upd f i b) j with h | ⟨h1, h2, h3, h4⟩
        · by_cases hj : j = i
          · subst hj
            exact Or.inr ⟨by rw [h]; simp [upd], hf, by omega, by omega⟩
          · rw [h]
            exact Or.inl (by simp [upd, hj])
        · have : j ≠ i := by omega
          exact Or.inr ⟨h1, by simpa [upd, this] using h2, by omega, by omega⟩
      · rcases mkF_at b n (i + 1) c f j with h | ⟨h1, h2, h3, h4⟩
        · exact Or.inl h
        · exact Or.inr ⟨h1, h2, by omega, by omega⟩
theorem mkT_lt (f : Nat → Int32) : ∀ n i c t, t < 2 ^ i → mkT f n i c t < 2 ^ (i + n)
  | 0, i, _, t, h => h
  | n + 1, i, c, t, h => by
    have e : 2 ^ (i + 1) = 2 ^ i + 2 ^ i := by rw [Nat.pow_succ]; omega
    have up : 2 ^ i ≤ 2 ^ (i + (n + 1)) := Nat.pow_le_pow_right (by decide) (by omega)
    unfold mkT
    split
    · omega
    · split
      · have := mkT_lt f n (i + 1) (c - 1) (t + 2 ^ i) (by omega)
        rw [show i + 1 + n = i + (n + 1) by omega] at this
        exact this
      · have := mkT_lt f n (i + 1) c t (by omega)
        rw [show i + 1 + n = i + (n + 1) by omega] at this
        exact this
theorem tb_add {t i j : Nat} (h : t < 2 ^ i) : (t + 2 ^ i).testBit j = (t.testBit j || decide (j = i)) := by
  have e := Nat.testBit_two_pow_mul_add (a := 1) (b := t) (i := i) h j
  rw [Nat.mul_one, Nat.add_comm] at e
  rw [e]
  by_cases h1 : j < i
  · simp [h1, show j ≠ i by omega]
  · have h2 : t.testBit j = false := Nat.testBit_lt_two_pow (Nat.lt_of_lt_of_le h (Nat.pow_le_pow_right (by decide) (by omega)))
    rw [if_neg h1, h2]
    by_cases h3 : j = i
    · subst h3; simp
    · simp only [h3, decide_false, Bool.or_false]
      exact Nat.testBit_lt_two_pow (Nat.one_lt_two_pow (by omega))
/-- the bits are the seats that were given -/
theorem mkT_bits {b : Int32} (hb : b ≠ -8) : ∀ n i c (f : Nat → Int32) t, t < 2 ^ i → ∀ j, (mkT f n i c t).testBit j = true ↔ (t.testBit j = true ∨ (f j = -8 ∧ i ≤ j ∧ mkF b n i c f j = b))
  | 0, i, c, f, t, h, j => by
    unfold mkT mkF
    constructor
    · exact Or.inl
    · rintro (h1 | ⟨h1, _, h3⟩)
      · exact h1
      · exact absurd (h3.symm.trans h1) hb
  | n + 1, i, c, f, t, h, j => by
    have e : 2 ^ (i + 1) = 2 ^ i + 2 ^ i := by rw [Nat.pow_succ]; omega
    unfold mkT mkF
    split
    · constructor
      · exact Or.inl
      · rintro (h1 | ⟨h1, _, h3⟩)
        · exact h1
        · exact absurd (h3.symm.trans h1) hb
    · split
      · rename_i hf
        rw [mkT_congr (f := f) (g := upd f i b) n (i + 1) (c - 1) _ (fun k hk => (upd_after k hk).symm), mkT_bits hb n (i + 1) (c - 1) (upd f i b) (t + 2 ^ i) (by omega) j, tb_add h]
        by_cases hj : j = i
        · subst hj
          have : mkF b n (j + 1) (c - 1) (upd f j b) j = b := by
            rcases mkF_at b n (j + 1) (c - 1) (upd f j b) j with h1 | ⟨_, _, h3, _⟩
            · rw [h1]; simp [upd]
            · omega
          simp [hf, this]
        · have hu : upd f i b j = f j := by simp [upd, hj]
          rw [hu]
          simp only [hj, decide_false, Bool.or_false]
          constructor
          · rintro (h1 | ⟨h1, h2, h3⟩)
            · exact Or.inl h1
            · exact Or.inr ⟨h1, by omega, h3⟩
          · rintro (h1 | ⟨h1, h2, h3⟩)
            · exact Or.inl h1
            · exact Or.inr ⟨h1, by omega, h3⟩
      · rename_i hf
        rw [mkT_bits hb n (i + 1) c f t (by omega) j]
        constructor
        · rintro (h1 | ⟨h1, h2, h3⟩)
          · exact Or.inl h1
          · exact Or.inr ⟨h1, by omega, h3⟩
        · rintro (h1 | ⟨h1, h2, h3⟩)
          · exact Or.inl h1
          · by_cases hj : j = i
            · subst hj
              exact absurd h1 hf
            · exact Or.inr ⟨h1, by omega, h3⟩
/-- how many bits of t are set, of the first n -/
def pcN (t : Nat) : Nat → Nat
  | 0 => 0
  | n + 1 => pcN t n + (if t.testBit n then 1 else 0)
theorem pcN_congr {t u : Nat} : ∀ n, (∀ j, j < n → t.testBit j = u.testBit j) → pcN t n = pcN u n
  | 0, _ => rfl
  | n + 1, h => by
    unfold pcN
    rw [h n (by omega), pcN_congr n (fun j hj => h j (by omega))]
theorem pcN_0 : ∀ n, pcN 0 n = 0
  | 0 => rfl
  | n + 1 => by unfold pcN; rw [pcN_0 n]; simp
theorem pcN_add {t i : Nat} (h : t < 2 ^ i) : ∀ n, pcN (t + 2 ^ i) n = pcN t n + (if i < n then 1 else 0)
  | 0 => by simp [pcN]
  | n + 1 => by
    unfold pcN
    rw [pcN_add h n, tb_add h]
    by_cases h1 : n = i
    · subst h1
      have : t.testBit n = false := Nat.testBit_lt_two_pow h
      simp [this]
    · by_cases h2 : i < n
      · simp [h1, h2, show i < n + 1 by omega]; omega
      · simp [h1, h2, show ¬ i < n + 1 by omega]
theorem mkT_pc (f : Nat → Int32) : ∀ n i c t m, t < 2 ^ i → i + n ≤ m → pcN (mkT f n i c t) m = pcN t m + mkC f n i c
  | 0, i, c, t, m, h, hm => by unfold mkT mkC; omega
  | n + 1, i, c, t, m, h, hm => by
    have e : 2 ^ (i + 1) = 2 ^ i + 2 ^ i := by rw [Nat.pow_succ]; omega
    unfold mkT mkC
    split
    · omega
    · split
      · rw [mkT_pc f n (i + 1) (c - 1) (t + 2 ^ i) m (by omega) (by omega), pcN_add h, if_pos (show i < m by omega)]
        omega
      · rw [mkT_pc f n (i + 1) c t m (by omega) (by omega)]
/-- the best stretch for w: the least seat from which most of w seats can be had side by side -/
def valS (f : Nat → Int32) (z w k : Nat) : Nat := min (runL f (z - k) k) w
def bsL (f : Nat → Int32) (z w : Nat) : Nat → Nat
  | 0 => 0
  | n + 1 => if valS f z w (bsL f z w n) < valS f z w n then n else bsL f z w n
def bsS (f : Nat → Int32) (z w : Nat) : Nat := bsL f z w z
def isBs (f : Nat → Int32) (z w s : Nat) : Prop := s ≤ z ∧ (∀ k, k < z → valS f z w k ≤ valS f z w s) ∧ ∀ k, k < s → valS f z w k < valS f z w s
theorem bsL_is (f : Nat → Int32) (z w : Nat) : ∀ n, bsL f z w n ≤ n ∧ (∀ k, k < n → valS f z w k ≤ valS f z w (bsL f z w n)) ∧ ∀ k, k < bsL f z w n → valS f z w k < valS f z w (bsL f z w n)
  | 0 => ⟨Nat.le_refl 0, fun k h => by omega, fun k h => by unfold bsL at h; omega⟩
  | n + 1 => by
    obtain ⟨h0, h1, h2⟩ := bsL_is f z w n
    unfold bsL
    split
    · rename_i h
      refine ⟨by omega, fun k hk => ?_, fun k hk => ?_⟩
      · by_cases e : k = n
        · rw [e]; exact Nat.le_refl _
        · have := h1 k (by omega); omega
      · have := h1 k hk; omega
    · rename_i h
      refine ⟨by omega, fun k hk => ?_, h2⟩
      by_cases e : k = n
      · rw [e]; omega
      · exact h1 k (by omega)
theorem isBs_unique {f : Nat → Int32} {z w s t : Nat} (hs : isBs f z w s) (ht : isBs f z w t) : s = t := by
  obtain ⟨a0, a1, a2⟩ := hs
  obtain ⟨b0, b1, b2⟩ := ht
  rcases Nat.lt_trichotomy s t with h | h | h
  · have := b2 s h
    rcases Nat.lt_or_ge t z with q | q
    · have := a1 t q; omega
    · have e : valS f z w t = 0 := by unfold valS; rw [show z - t = 0 by omega]; simp [runL]
      omega
  · exact h
  · have := a2 t h
    rcases Nat.lt_or_ge s z with q | q
    · have := b1 s q; omega
    · have e : valS f z w s = 0 := by unfold valS; rw [show z - s = 0 by omega]; simp [runL]
      omega
theorem isBs_eq {f : Nat → Int32} {z w s : Nat} (h : isBs f z w s) : s = bsS f z w := isBs_unique h (bsL_is f z w z)
/-- what a row gives: where it begins to give, how much at most, what it holds then, how much it was -/
def tkS (f : Nat → Int32) (z : Nat) (sd : Int32) (w : Nat) : Nat := if sd = 0 then 0 else bsS f z w
def tkN (f : Nat → Int32) (z : Nat) (sd : Int32) (w : Nat) : Nat := if sd = 0 then w else valS f z w (bsS f z w)
def tkF (b : Int32) (f : Nat → Int32) (z : Nat) (sd : Int32) (w : Nat) : Nat → Int32 := mkF b (z - tkS f z sd w) (tkS f z sd w) (tkN f z sd w) f
def tkC (f : Nat → Int32) (z : Nat) (sd : Int32) (w : Nat) : Nat := mkC f (z - tkS f z sd w) (tkS f z sd w) (tkN f z sd w)
theorem tkS_le (f : Nat → Int32) (z : Nat) (sd : Int32) (w : Nat) : tkS f z sd w ≤ z := by
  unfold tkS
  split
  · omega
  · exact (bsL_is f z w z).1
theorem tkC_le (f : Nat → Int32) (z : Nat) (sd : Int32) (w : Nat) : tkC f z sd w ≤ w := by
  have := mkC_le f (z - tkS f z sd w) (tkS f z sd w) (tkN f z sd w)
  have : tkN f z sd w ≤ w := by
    unfold tkN valS
    split <;> omega
  unfold tkC
  omega
end
section
theorem nx_and (a b : Nat) : nI a &&& nI b = nI (a &&& b) := by
  apply Int32.toBitVec_inj.1
  show BitVec.ofNat 32 a &&& BitVec.ofNat 32 b = BitVec.ofNat 32 (a &&& b)
  apply BitVec.eq_of_getLsbD_eq
  intro i hi
  simp [hi]
theorem and_split {a c : Nat} (b e : Nat) (ha : a < 16) (hc : c < 16) : (a + 16 * b) &&& (c + 16 * e) = (a &&& c) + 16 * (b &&& e) := by
  apply Nat.eq_of_testBit_eq
  intro j
  have h1 := Nat.testBit_two_pow_mul_add (a := b) (b := a) (i := 4) ha j
  have h2 := Nat.testBit_two_pow_mul_add (a := e) (b := c) (i := 4) hc j
  have h3 := Nat.testBit_two_pow_mul_add (a := b &&& e) (b := a &&& c) (i := 4) (Nat.and_lt_two_pow a hc) j
  rw [Nat.testBit_and, Nat.add_comm a, Nat.add_comm c, Nat.add_comm (a &&& c)]
  rw [show (2 : Nat) ^ 4 = 16 from rfl] at h1 h2 h3
  rw [h1, h2, h3]
  split <;> simp
theorem bs_1 : ∀ d, d < 16 → ∀ e, e < 2 → (d / 2 + 8 * e) &&& 5 = d / 2 &&& 5 := by decide +kernel
theorem bs_2 : ∀ d, d < 16 → ∀ e, e < 4 → (d / 4 + 4 * e) &&& 3 = d / 4 &&& 3 := by decide +kernel
theorem bs_u : ∀ d, d < 16 → (d / 2 &&& 5) ≤ d := by decide +kernel
def pc4 (d : Nat) : Nat := d % 2 + d / 2 % 2 + d / 4 % 2 + d / 8 % 2
theorem bs_v : ∀ d, d < 16 → ((d - (d / 2 &&& 5)) &&& 3) + ((d - (d / 2 &&& 5)) / 4 &&& 3) = pc4 d := by decide +kernel
theorem bs_w : ∀ d, d < 16 → pc4 d ≤ 4 := by decide +kernel
theorem bs_15 : ∀ d, d < 16 → d &&& 15 = d := by decide +kernel
theorem bs_0 (a : Nat) : a &&& 0 = 0 := by simp
theorem st_1 {d : Nat} (y m : Nat) (hd : d < 16) : (d + 16 * y) / 2 &&& (5 + 16 * m) = (d / 2 &&& 5) + 16 * (y / 2 &&& m) := by
  rw [show (d + 16 * y) / 2 = (d / 2 + 8 * (y % 2)) + 16 * (y / 2) by omega, and_split _ _ (by omega) (by decide), bs_1 d hd _ (by omega)]
theorem st_2 {d : Nat} (y m : Nat) (hd : d < 16) : (d + 16 * y) / 4 &&& (3 + 16 * m) = (d / 4 &&& 3) + 16 * (y / 4 &&& m) := by
  rw [show (d + 16 * y) / 4 = (d / 4 + 4 * (y % 4)) + 16 * (y / 4) by omega, and_split _ _ (by omega) (by decide), bs_2 d hd _ (by omega)]
theorem bc_B1 {a b c d e : Nat} (ha : a < 16) (hb : b < 16) (hc : c < 16) (hd : d < 16) (he : e < 16) : (a + 16 * (b + 16 * (c + 16 * (d + 16 * e)))) / 2 &&& 1431655765 = (a / 2 &&& 5) + 16 * ((b / 2 &&& 5) + 16 * ((c / 2 &&& 5) + 16 * ((d / 2 &&& 5) + 16 * (e / 2 &&& 5)))) := by
  rw [show (1431655765 : Nat) = 5 + 16 * (5 + 16 * (5 + 16 * (5 + 16 * (5 + 16 * 1365)))) from rfl, st_1 _ _ ha, st_1 _ _ hb, st_1 _ _ hc, st_1 _ _ hd]
  have := st_1 0 1365 he
  rw [Nat.mul_zero, Nat.add_zero] at this
  rw [this]
  simp
theorem bc_B2a {a b c d e : Nat} (ha : a < 16) (hb : b < 16) (hc : c < 16) (hd : d < 16) (he : e < 16) : (a + 16 * (b + 16 * (c + 16 * (d + 16 * e)))) &&& 858993459 = (a &&& 3) + 16 * ((b &&& 3) + 16 * ((c &&& 3) + 16 * ((d &&& 3) + 16 * (e &&& 3)))) := by
  rw [show (858993459 : Nat) = 3 + 16 * (3 + 16 * (3 + 16 * (3 + 16 * (3 + 16 * 819)))) from rfl, and_split _ _ ha (by decide), and_split _ _ hb (by decide), and_split _ _ hc (by decide), and_split _ _ hd (by decide)]
  have := and_split 0 819 he (show 3 < 16 by decide)
  rw [Nat.mul_zero, Nat.add_zero] at this
  rw [this]
  simp
theorem bc_B2b {a b c d e : Nat} (ha : a < 16) (hb : b < 16) (hc : c < 16) (hd : d < 16) (he : e < 16) : (a + 16 * (b + 16 * (c + 16 * (d + 16 * e)))) / 4 &&& 858993459 = (a / 4 &&& 3) + 16 * ((b / 4 &&& 3) + 16 * ((c / 4 &&& 3) + 16 * ((d / 4 &&& 3) + 16 * (e / 4 &&& 3)))) := by
  rw [show (858993459 : Nat) = 3 + 16 * (3 + 16 * (3 + 16 * (3 + 16 * (3 + 16 * 819)))) from rfl, st_2 _ _ ha, st_2 _ _ hb, st_2 _ _ hc, st_2 _ _ hd]
  have := st_2 0 819 he
  rw [Nat.mul_zero, Nat.add_zero] at this
  rw [this]
  simp
theorem bc_B3 {a b c d e : Nat} (ha : a < 16) (hc : c < 16) (he : e < 16) (hb : b < 16) (hd : d < 16) : (a + 16 * (b + 16 * (c + 16 * (d + 16 * e)))) &&& 252645135 = a + 256 * c + 65536 * e := by
  rw [show (252645135 : Nat) = 15 + 16 * (0 + 16 * (15 + 16 * (0 + 16 * (15 + 16 * 240)))) from rfl, and_split _ _ ha (by decide), and_split _ _ hb (by decide), and_split _ _ hc (by decide), and_split _ _ hd (by decide)]
  have := and_split 0 240 he (show 15 < 16 by decide)
  rw [Nat.mul_zero, Nat.add_zero] at this
  rw [this, bs_15 a ha, bs_15 c hc, bs_15 e he, bs_0, bs_0]
  simp
  omega
theorem pcN_sh (t : Nat) : ∀ n, pcN t (n + 1) = t % 2 + pcN (t / 2) n
  | 0 => by
    simp only [pcN, Nat.zero_add, Nat.testBit_zero]
    rcases Nat.mod_two_eq_zero_or_one t with h | h <;> simp [h]
  | n + 1 => by
    have h := pcN_sh t n
    rw [show pcN t (n + 1 + 1) = pcN t (n + 1) + (if t.testBit (n + 1) then 1 else 0) from rfl, h, Nat.testBit_succ]
    rw [show pcN (t / 2) (n + 1) = pcN (t / 2) n + (if (t / 2).testBit n then 1 else 0) from rfl]
    omega
theorem pcN_4 (t n : Nat) : pcN t (n + 4) = pc4 (t % 16) + pcN (t / 16) n := by
  rw [show n + 4 = n + 3 + 1 from rfl, pcN_sh, show n + 3 = n + 2 + 1 from rfl, pcN_sh, show n + 2 = n + 1 + 1 from rfl, pcN_sh, pcN_sh]
  rw [show t / 2 / 2 / 2 / 2 = t / 16 by omega]
  unfold pc4
  omega
theorem bc_tail {s0 s1 s2 : Nat} (h0 : s0 ≤ 8) (h1 : s1 ≤ 8) (h2 : s2 ≤ 4) : ((s0 + 256 * s1 + 65536 * s2) + (s0 + 256 * s1 + 65536 * s2) / 256 + ((s0 + 256 * s1 + 65536 * s2) + (s0 + 256 * s1 + 65536 * s2) / 256) / 65536) % 64 = s0 + s1 + s2 := by
  have e1 : (s0 + 256 * s1 + 65536 * s2) / 256 = s1 + 256 * s2 := by omega
  rw [e1]
  have e2 : (s0 + 256 * s1 + 65536 * s2 + (s1 + 256 * s2)) / 65536 = s2 := by omega
  rw [e2]
  omega
/-- the JDK's way of counting, on numbers of 20 bits -/
theorem bc_all {t : Nat} (ht : t < 2 ^ 20) : ∃ x1 x2 x3 x4 x5 : Nat, x1 + (t / 2 &&& 1431655765) = t ∧ x2 = (x1 &&& 858993459) + (x1 / 4 &&& 858993459) ∧ x3 = (x2 + x2 / 16) &&& 252645135 ∧ x4 = x3 + x3 / 256 ∧ x5 = x4 + x4 / 65536 ∧ x5 % 64 = pcN t 20 ∧ x1 < 2 ^ 24 ∧ x2 < 2 ^ 24 ∧ x3 < 2 ^ 24 ∧ x4 < 2 ^ 24 ∧ x5 < 2 ^ 24 ∧ x2 + x2 / 16 < 2 ^ 24 := by
  obtain ⟨a, b, c, d, e, ha, hb, hc, hd, he, rfl⟩ : ∃ a b c d e : Nat, a < 16 ∧ b < 16 ∧ c < 16 ∧ d < 16 ∧ e < 16 ∧ t = a + 16 * (b + 16 * (c + 16 * (d + 16 * e))) :=
    ⟨t % 16, t / 16 % 16, t / 256 % 16, t / 4096 % 16, t / 65536 % 16, by omega, by omega, by omega, by omega, by omega, by omega⟩
  have ua := bs_u a ha; have ub := bs_u b hb; have uc := bs_u c hc; have ud := bs_u d hd; have ue := bs_u e he
  have va := bs_v a ha; have vb := bs_v b hb; have vc := bs_v c hc; have vd := bs_v d hd; have ve := bs_v e he
  have wa := bs_w a ha; have wb := bs_w b hb; have wc := bs_w c hc; have wd := bs_w d hd; have we := bs_w e he
  have e2 : ((((a - (a / 2 &&& 5)) + 16 * ((b - (b / 2 &&& 5)) + 16 * ((c - (c / 2 &&& 5)) + 16 * ((d - (d / 2 &&& 5)) + 16 * (e - (e / 2 &&& 5)))))) &&& 858993459) + (((a - (a / 2 &&& 5)) + 16 * ((b - (b / 2 &&& 5)) + 16 * ((c - (c / 2 &&& 5)) + 16 * ((d - (d / 2 &&& 5)) + 16 * (e - (e / 2 &&& 5)))))) / 4 &&& 858993459)) = pc4 a + 16 * (pc4 b + 16 * (pc4 c + 16 * (pc4 d + 16 * pc4 e))) := by
    rw [bc_B2a (by omega) (by omega) (by omega) (by omega) (by omega), bc_B2b (by omega) (by omega) (by omega) (by omega) (by omega)]
    omega
  have e3 : ((pc4 a + 16 * (pc4 b + 16 * (pc4 c + 16 * (pc4 d + 16 * pc4 e)))) + (pc4 a + 16 * (pc4 b + 16 * (pc4 c + 16 * (pc4 d + 16 * pc4 e)))) / 16) &&& 252645135 = (pc4 a + pc4 b) + 256 * (pc4 c + pc4 d) + 65536 * pc4 e := by
    rw [show (pc4 a + 16 * (pc4 b + 16 * (pc4 c + 16 * (pc4 d + 16 * pc4 e)))) + (pc4 a + 16 * (pc4 b + 16 * (pc4 c + 16 * (pc4 d + 16 * pc4 e)))) / 16 = (pc4 a + pc4 b) + 16 * ((pc4 b + pc4 c) + 16 * ((pc4 c + pc4 d) + 16 * ((pc4 d + pc4 e) + 16 * pc4 e))) by omega]
    rw [bc_B3 (by omega) (by omega) (by omega) (by omega) (by omega)]
  have e6 : pcN (a + 16 * (b + 16 * (c + 16 * (d + 16 * e)))) 20 = pc4 a + pc4 b + pc4 c + pc4 d + pc4 e := by
    rw [show (20 : Nat) = 16 + 4 from rfl, pcN_4, show (16 : Nat) = 12 + 4 from rfl, pcN_4, show (12 : Nat) = 8 + 4 from rfl, pcN_4, show (8 : Nat) = 4 + 4 from rfl, pcN_4, show (4 : Nat) = 0 + 4 from rfl, pcN_4]
    have h1 : (a + 16 * (b + 16 * (c + 16 * (d + 16 * e)))) % 16 = a := by omega
    have h2 : (a + 16 * (b + 16 * (c + 16 * (d + 16 * e)))) / 16 % 16 = b := by omega
    have h3 : (a + 16 * (b + 16 * (c + 16 * (d + 16 * e)))) / 16 / 16 % 16 = c := by omega
    have h4 : (a + 16 * (b + 16 * (c + 16 * (d + 16 * e)))) / 16 / 16 / 16 % 16 = d := by omega
    have h5 : (a + 16 * (b + 16 * (c + 16 * (d + 16 * e)))) / 16 / 16 / 16 / 16 % 16 = e := by omega
    simp only [Nat.zero_add, show (0 + 4 + 4 + 4 + 4 : Nat) = 16 from rfl, show (12 + 4 : Nat) = 16 from rfl, show (8 + 4 : Nat) = 12 from rfl, show (4 + 4 : Nat) = 8 from rfl] at h1 h2 h3 h4 h5 ⊢
    rw [h1, h2, h3, h4, h5]
    simp only [pcN]
    omega
  refine ⟨(a - (a / 2 &&& 5)) + 16 * ((b - (b / 2 &&& 5)) + 16 * ((c - (c / 2 &&& 5)) + 16 * ((d - (d / 2 &&& 5)) + 16 * (e - (e / 2 &&& 5))))), _, _, _, _, ?_, rfl, rfl, rfl, rfl, ?_⟩
  · rw [bc_B1 ha hb hc hd he]
    omega
  · rw [e2, e3, e6]
    refine ⟨?_, by omega, by omega, by omega, by omega, by omega, by omega⟩
    rw [bc_tail (by omega) (by omega) (by omega)]
    omega
end
section
set_option maxHeartbeats 4000000 in
set_option maxRecDepth 100000 in
theorem lp_seatsOf {p : Program} {l : Launch} {e : Env} {s : State} {m : MethodId} {args : Array Value} {below : List Frame} {meth : Method} {c : Code} {A : Nat → Prop} {D : va_G} {K : gCl} {ws0 : va_W} {rm : Room} {ws : va_W} {a o q0 q1 z : Nat} {sd ho bk : Int32} {f : Nat → Int32} {v : Int32} (hz : z ≤ 20) (he0 : ws[q0]? = some (a, gRow o (nI z) sd ho bk)) (he1 : ws[q1]? = some (o, gArr K.1 20 f))
    (I : gIn p s m meth c A yX1_seatsOf wsX1_seatsOf cX1_seatsOf 4 (some .int) args D vwCl (gT K) ws0)  :
    ∀ (k : Nat) (i : Nat) (H : Heap) (locs : List Loc), i + k = z → va_P D vwCl (ws) H → va_D A (ws) → va_S A s.heap H locs →
    ∀ (ls : Array Slot), lv_has ls 4 [(3, .int (nI i)), (2, .int (nI (cntV f v i))), (0, .ref a), (1, .int v)] →
    W p l e rm s m args below meth c H locs 0 0 (MQ below (va_Qi (fun r w => w = ws ∧ r = nI (cntV f v z)) (gB D vwCl (gT K) A) A) args s 0 0 A) (F0 m 4 ls []) := by
  have I0 := I
  obtain ⟨hx, hb, hr, hml, hown, hts, hlocks, hnm, hA, hK, -, -, -⟩ := I
  have hown : s.vm.findClass RX1 = some m.cls := hown
  have hi_X1 : ∀ w ∈ u_ws RX1 TX1 5, w ∈ wsX1_seatsOf := by decide +kernel
  intro k
  induction k with
  | zero =>
    intro i H locs hi hP hD hS ls hl
    have hiz : i = z := by omega
    subst hiz
    refine lv_iload_n hx hb dX1_seatsOf_4 rfl (lv_at hl 0 rfl) ?_
    refine lv_aload_n hx hb dX1_seatsOf_5 rfl (lv_at hl 2 rfl) ?_
    refine va_get (C := RX1) (T := TX1) (N := 5) (ci := 1) hx hb hts hi_X1 hown hK hP (q0) (he0) rfl 1 (by decide) (hts (.fieldLink RX1 15 "GroupSeats$Row" "size" "I") (by decide +kernel)) (fun _ h9 => h9) rfl dX1_seatsOf_6 ?_
    refine lv_icmp_ge (tgt := 31) hx hb dX1_seatsOf_9 (by decide) (fun c9 => ?_) (fun c9 => ?_)
    · refine lv_iload_n hx hb dX1_seatsOf_31 rfl (lv_at hl 1 rfl) ?_
      exact g_iret hx hb hr hlocks (Nat.le_of_ble_eq_true rfl) (Nat.le_of_ble_eq_true rfl) hK hP hD hS dX1_seatsOf_32 (⟨rfl, rfl⟩)
    · exact absurd (nI_le (by omega) (by omega)) c9
  | succ k ih =>
    intro i H locs hi hP hD hS ls hl
    refine lv_iload_n hx hb dX1_seatsOf_4 rfl (lv_at hl 0 rfl) ?_
    refine lv_aload_n hx hb dX1_seatsOf_5 rfl (lv_at hl 2 rfl) ?_
    refine va_get (C := RX1) (T := TX1) (N := 5) (ci := 1) hx hb hts hi_X1 hown hK hP (q0) (he0) rfl 1 (by decide) (hts (.fieldLink RX1 15 "GroupSeats$Row" "size" "I") (by decide +kernel)) (fun _ h9 => h9) rfl dX1_seatsOf_6 ?_
    refine lv_icmp_ge (tgt := 31) hx hb dX1_seatsOf_9 (by decide) (fun c9 => ?_) (fun c9 => ?_)
    · exact absurd c9 (nI_ge (by omega) (by omega))
    · refine lv_aload_n hx hb dX1_seatsOf_12 rfl (lv_at hl 2 rfl) ?_
      refine va_get (C := RX1) (T := TX1) (N := 5) (ci := 1) hx hb hts hi_X1 hown hK hP (q0) (he0) rfl 0 (by decide) (hts (.fieldLink RX1 9 "GroupSeats$Row" "owners" "[I") (by decide +kernel)) (fun _ h9 => h9) rfl dX1_seatsOf_13 ?_
      refine lv_iload_n hx hb dX1_seatsOf_16 rfl (lv_at hl 0 rfl) ?_
      refine va_iald hx hb hK hP (q1) 0 (he1) rfl (vp_in_nI (show i < 20 by omega) (by decide)) dX1_seatsOf_17 ?_
      refine lv_iload_n hx hb dX1_seatsOf_18 rfl (lv_at hl 3 rfl) ?_
      refine lv_icmp_ne (tgt := 25) hx hb dX1_seatsOf_19 (by decide) (fun c19 => ?_) (fun c19 => ?_)
      · refine lv_iinc (lv' := [(3, .int _), (2, .int _), (0, .ref _), (1, .int _)]) hx hb dX1_seatsOf_25 hl (k := 0) rfl rfl (by decide) rfl (fun ls hl => ?_)
        refine lv_goto (tgt := 4) hx hb dX1_seatsOf_28 (by decide) ?_
        rw [nI_clamp (by omega)] at c19
        rw [g_inc] at hl
        have e1 : cntV f v (i + 1) = cntV f v i := by simp [cntV, c19]
        rw [← e1] at hl
        exact ih (i + 1) H locs (by omega) hP hD hS ls (lv_sub hl [0, 1, 2, 3] rfl)
      · refine lv_iinc (lv' := [(2, .int _), (3, .int _), (0, .ref _), (1, .int _)]) hx hb dX1_seatsOf_22 hl (k := 1) rfl rfl (by decide) rfl (fun ls hl => ?_)
        refine lv_iinc (lv' := [(3, .int _), (2, .int _), (0, .ref _), (1, .int _)]) hx hb dX1_seatsOf_25 hl (k := 1) rfl rfl (by decide) rfl (fun ls hl => ?_)
        refine lv_goto (tgt := 4) hx hb dX1_seatsOf_28 (by decide) ?_
        rw [nI_clamp (by omega)] at c19
        rw [g_inc] at hl
        rw [g_inc] at hl
        have e1 : cntV f v (i + 1) = cntV f v i + 1 := by simp [cntV, c19]
        rw [← e1] at hl
        exact ih (i + 1) H locs (by omega) hP hD hS ls (lv_sub hl [0, 1, 2, 3] rfl)
set_option maxHeartbeats 4000000 in
set_option maxRecDepth 100000 in
/-- Row.seatsOf(v) -/
theorem c_seatsOf (l : Launch) (D : va_G) (K : gCl) (ws : va_W) (a o q0 q1 z : Nat) (sd ho bk : Int32) (f : Nat → Int32) (v : Int32) (sz : Nat) (hz : z ≤ 20) (he0 : ws[q0]? = some (a, gRow o (nI z) sd ho bk)) (he1 : ws[q1]? = some (o, gArr K.1 20 f)) : gMi l yX1_seatsOf wsX1_seatsOf ({ frames := 0, cells := 0, slots := 0, locals := 0 } : Room) D vwCl (gT K) [.ref a, .int v] (ws) sz (fun r w => w = ws ∧ r = nI (cntV f v z)) 0 0 := by
  refine g_of (cc := cX1_seatsOf) (maxL := 4) (ret := (some .int)) (Qc := fun A => va_Qi (fun r w => w = ws ∧ r = nI (cntV f v z)) (gB D vwCl (gT K) A) A) (by decide) rfl (Nat.le_of_ble_eq_true rfl) ?_
  intro p e s m below meth c A ls I hl
  have I0 := I
  obtain ⟨hx, hb, hr, hml, hown, hts, hlocks, hnm, hA, hK, hP, hD, hS⟩ := I
  have hown : s.vm.findClass RX1 = some m.cls := hown
  have hl : lv_has ls 4 [(0, .ref a), (1, .int v)] := hl
  have hi_X1 : ∀ w ∈ u_ws RX1 TX1 5, w ∈ wsX1_seatsOf := by decide +kernel
  refine lv_iconst (v := 0) hx hb dX1_seatsOf_0 (by decide) ?_
  refine lv_istore_n (lv' := [(2, .int _), (0, .ref _), (1, .int _)]) hx hb dX1_seatsOf_1 rfl hl (by decide) rfl (fun ls hl => ?_)
  refine lv_iconst (v := 0) hx hb dX1_seatsOf_2 (by decide) ?_
  refine lv_istore_n (lv' := [(3, .int _), (2, .int _), (0, .ref _), (1, .int _)]) hx hb dX1_seatsOf_3 rfl hl (by decide) rfl (fun ls hl => ?_)
  exact lp_seatsOf hz he0 he1 I0 z 0 _ _ (by omega) hP hD hS ls (lv_sub hl [0, 1, 2, 3] rfl)
set_option maxHeartbeats 4000000 in
set_option maxRecDepth 100000 in
theorem lp_freeSeatsOf {p : Program} {l : Launch} {e : Env} {s : State} {m : MethodId} {args : Array Value} {below : List Frame} {meth : Method} {c : Code} {A : Nat → Prop} {D : va_G} {K : gCl} {ws0 : va_W} {rm : Room} {wsF : va_W} {a o q0 q1 z : Nat} {sd ho bk : Int32} {f : Nat → Int32} {v : Int32} (hne : q0 ≠ q1) (hz : z ≤ 20)
    (I : gIn p s m meth c A yX1_freeSeatsOf wsX1_freeSeatsOf cX1_freeSeatsOf 3 none args D vwCl (gT K) ws0)  :
    ∀ (k : Nat) (i : Nat) (ws : va_W) (H : Heap) (locs : List Loc), i + k = z → ws[q0]? = some (a, gRow o (nI z) sd ho bk) → ws[q1]? = some (o, gArr K.1 20 (freeV f v i)) → ws.set q1 (o, gArr K.1 20 (freeV f v z)) = wsF → va_P D vwCl (ws) H → va_D A (ws) → va_S A s.heap H locs →
    ∀ (ls : Array Slot), lv_has ls 3 [(2, .int (nI i)), (0, .ref a), (1, .int v)] →
    W p l e rm s m args below meth c H locs 0 0 (MQ below (va_Qv (fun w => w = wsF) (gB D vwCl (gT K) A) A) args s 0 0 A) (F0 m 2 ls []) := by
  have I0 := I
  obtain ⟨hx, hb, hr, hml, hown, hts, hlocks, hnm, hA, hK, -, -, -⟩ := I
  have hown : s.vm.findClass RX1 = some m.cls := hown
  have hi_X1 : ∀ w ∈ u_ws RX1 TX1 5, w ∈ wsX1_freeSeatsOf := by decide +kernel
  intro k
  induction k with
  | zero =>
    intro i ws H locs hi he0 he1 hF hP hD hS ls hl
    have hiz : i = z := by omega
    subst hiz
    refine lv_iload_n hx hb dX1_freeSeatsOf_2 rfl (lv_at hl 0 rfl) ?_
    refine lv_aload_n hx hb dX1_freeSeatsOf_3 rfl (lv_at hl 1 rfl) ?_
    refine va_get (C := RX1) (T := TX1) (N := 5) (ci := 1) hx hb hts hi_X1 hown hK hP (q0) (he0) rfl 1 (by decide) (hts (.fieldLink RX1 15 "GroupSeats$Row" "size" "I") (by decide +kernel)) (fun _ h9 => h9) rfl dX1_freeSeatsOf_4 ?_
    refine lv_icmp_ge (tgt := 34) hx hb dX1_freeSeatsOf_7 (by decide) (fun c7 => ?_) (fun c7 => ?_)
    · exact g_vret hx hb hr hlocks (Nat.le_of_ble_eq_true rfl) (Nat.le_of_ble_eq_true rfl) hK hP hD hS dX1_freeSeatsOf_34 ((g_setid he1).symm.trans hF)
    · exact absurd (nI_le (by omega) (by omega)) c7
  | succ k ih =>
    intro i ws H locs hi he0 he1 hF hP hD hS ls hl
    refine lv_iload_n hx hb dX1_freeSeatsOf_2 rfl (lv_at hl 0 rfl) ?_
    refine lv_aload_n hx hb dX1_freeSeatsOf_3 rfl (lv_at hl 1 rfl) ?_
    refine va_get (C := RX1) (T := TX1) (N := 5) (ci := 1) hx hb hts hi_X1 hown hK hP (q0) (he0) rfl 1 (by decide) (hts (.fieldLink RX1 15 "GroupSeats$Row" "size" "I") (by decide +kernel)) (fun _ h9 => h9) rfl dX1_freeSeatsOf_4 ?_
    refine lv_icmp_ge (tgt := 34) hx hb dX1_freeSeatsOf_7 (by decide) (fun c7 => ?_) (fun c7 => ?_)
    · exact absurd c7 (nI_ge (by omega) (by omega))
    · refine lv_aload_n hx hb dX1_freeSeatsOf_10 rfl (lv_at hl 1 rfl) ?_
      refine va_get (C := RX1) (T := TX1) (N := 5) (ci := 1) hx hb hts hi_X1 hown hK hP (q0) (he0) rfl 0 (by decide) (hts (.fieldLink RX1 9 "GroupSeats$Row" "owners" "[I") (by decide +kernel)) (fun _ h9 => h9) rfl dX1_freeSeatsOf_11 ?_
      refine lv_iload_n hx hb dX1_freeSeatsOf_14 rfl (lv_at hl 0 rfl) ?_
      refine va_iald hx hb hK hP (q1) 0 (he1) rfl (vp_in_nI (show i < 20 by omega) (by decide)) dX1_freeSeatsOf_15 ?_
      refine lv_iload_n hx hb dX1_freeSeatsOf_16 rfl (lv_at hl 2 rfl) ?_
      refine lv_icmp_ne (tgt := 28) hx hb dX1_freeSeatsOf_17 (by decide) (fun c17 => ?_) (fun c17 => ?_)
      · refine lv_iinc (lv' := [(2, .int _), (0, .ref _), (1, .int _)]) hx hb dX1_freeSeatsOf_28 hl (k := 0) rfl rfl (by decide) rfl (fun ls hl => ?_)
        refine lv_goto (tgt := 2) hx hb dX1_freeSeatsOf_31 (by decide) ?_
        rw [nI_clamp (by omega)] at c17
        rw [freeV_at] at c17
        rw [g_inc] at hl
        rw [freeV_no c17] at he1
        exact ih (i + 1) _ H locs (by omega) he0 he1 hF hP hD hS ls (lv_sub hl [0, 1, 2] rfl)
      · refine lv_aload_n hx hb dX1_freeSeatsOf_20 rfl (lv_at hl 1 rfl) ?_
        refine va_get (C := RX1) (T := TX1) (N := 5) (ci := 1) hx hb hts hi_X1 hown hK hP (q0) (he0) rfl 0 (by decide) (hts (.fieldLink RX1 9 "GroupSeats$Row" "owners" "[I") (by decide +kernel)) (fun _ h9 => h9) rfl dX1_freeSeatsOf_21 ?_
        refine lv_iload_n hx hb dX1_freeSeatsOf_24 rfl (lv_at hl 0 rfl) ?_
        refine lv_bipush (v := -8) hx hb dX1_freeSeatsOf_25 (by decide) ?_
        refine va_iast hx hb hK hP hD hS (q1) 0 (he1) rfl (vp_in_nI (show i < 20 by omega) (by decide)) dX1_freeSeatsOf_27 (fun H locs hP hD hS => ?_)
        refine lv_iinc (lv' := [(2, .int _), (0, .ref _), (1, .int _)]) hx hb dX1_freeSeatsOf_28 hl (k := 0) rfl rfl (by decide) rfl (fun ls hl => ?_)
        refine lv_goto (tgt := 2) hx hb dX1_freeSeatsOf_31 (by decide) ?_
        rw [nI_clamp (by omega)] at c17
        rw [freeV_at] at c17
        rw [g_inc] at hl
        rw [nI_clamp (by omega), freeV_yes c17] at hP hD
        exact ih (i + 1) _ H locs (by omega) (g_setne (Ne.symm hne) he0) (g_setself he1) (by rw [List.set_set]; exact hF) hP hD hS ls (lv_sub hl [0, 1, 2] rfl)
set_option maxHeartbeats 4000000 in
set_option maxRecDepth 100000 in
/-- Row.freeSeatsOf(v) -/
theorem c_freeSeatsOf (l : Launch) (D : va_G) (K : gCl) (ws : va_W) (a o q0 q1 z : Nat) (sd ho bk : Int32) (f : Nat → Int32) (v : Int32) (sz : Nat) (hne : q0 ≠ q1) (hz : z ≤ 20) (he0 : ws[q0]? = some (a, gRow o (nI z) sd ho bk)) (he1 : ws[q1]? = some (o, gArr K.1 20 f)) : gMv l yX1_freeSeatsOf wsX1_freeSeatsOf ({ frames := 0, cells := 0, slots := 0, locals := 0 } : Room) D vwCl (gT K) [.ref a, .int v] (ws) sz (fun w => w = ws.set q1 (o, gArr K.1 20 (freeV f v z))) 0 0 := by
  refine g_of (cc := cX1_freeSeatsOf) (maxL := 3) (ret := none) (Qc := fun A => va_Qv (fun w => w = ws.set q1 (o, gArr K.1 20 (freeV f v z))) (gB D vwCl (gT K) A) A) (by decide) rfl (Nat.le_of_ble_eq_true rfl) ?_
  intro p e s m below meth c A ls I hl
  have I0 := I
  obtain ⟨hx, hb, hr, hml, hown, hts, hlocks, hnm, hA, hK, hP, hD, hS⟩ := I
  have hown : s.vm.findClass RX1 = some m.cls := hown
  have hl : lv_has ls 3 [(0, .ref a), (1, .int v)] := hl
  have hi_X1 : ∀ w ∈ u_ws RX1 TX1 5, w ∈ wsX1_freeSeatsOf := by decide +kernel
  refine lv_iconst (v := 0) hx hb dX1_freeSeatsOf_0 (by decide) ?_
  refine lv_istore_n (lv' := [(2, .int _), (0, .ref _), (1, .int _)]) hx hb dX1_freeSeatsOf_1 rfl hl (by decide) rfl (fun ls hl => ?_)
  exact lp_freeSeatsOf hne hz I0 z 0 ws _ _ (by omega) he0 (by rw [freeV_0]; exact he1) rfl hP hD hS ls (lv_sub hl [0, 1, 2] rfl)
def gbF (t : Nat) (f : Nat → Int32) (n : Nat) : Nat → Int32 := fun j => if j < n ∧ t.testBit j = true then -8 else f j
theorem gbF_0 (t : Nat) (f : Nat → Int32) : gbF t f 0 = f := by funext j; simp [gbF]
theorem gbF_yes {t : Nat} {f : Nat → Int32} {n : Nat} (h : t.testBit n = true) : upd (gbF t f n) n (-8) = gbF t f (n + 1) := by
  funext j
  by_cases hj : j = n
  · subst hj
    simp [upd, gbF, h]
  · by_cases h2 : j < n
    · simp [upd, gbF, hj, h2, show j < n + 1 by omega]
    · simp [upd, gbF, hj, h2, show ¬ j < n + 1 by omega]
theorem gbF_no {t : Nat} {f : Nat → Int32} {n : Nat} (h : t.testBit n = false) : gbF t f n = gbF t f (n + 1) := by
  funext j
  by_cases hj : j = n
  · subst hj
    simp [gbF, h]
  · by_cases h2 : j < n
    · simp [gbF, h2, show j < n + 1 by omega]
    · simp [gbF, h2, show ¬ j < n + 1 by omega]
theorem sh_one {i : Nat} (hi : i < 31) : (1 : Int32) <<< (nI i &&& 31) = nI (2 ^ i) := by
  have h : ((nI i &&& 31).toBitVec.smod 32).toNat = i := by
    have : ∀ n, n < 32 → ((nI n &&& 31).toBitVec.smod 32).toNat = n := by decide +kernel
    exact this i (by omega)
  have := pk_shlN (n := 1) (nI i &&& 31) i h (by rw [Nat.one_mul]; exact Nat.pow_lt_pow_right (by decide) (by omega))
  rw [Nat.one_mul] at this
  exact this
theorem bit_test {t i : Nat} (ht : t < 2 ^ 20) (hi : i < 20) : nI t &&& ((1 : Int32) <<< (nI i &&& 31)) = 0 ↔ t.testBit i = false := by
  rw [sh_one (by omega), nx_and, show (0 : Int32) = nI 0 from rfl, nI_eq (Nat.lt_of_le_of_lt Nat.and_le_left (by omega)) (by decide)]
  constructor
  · intro h
    have h2 := congrArg (fun x => x.testBit i) h
    simpa [Nat.testBit_and, Nat.testBit_two_pow_self] using h2
  · intro h
    apply Nat.eq_of_testBit_eq
    intro j
    rw [Nat.testBit_and, Nat.testBit_two_pow]
    by_cases e : i = j
    · subst e
      simp [h]
    · simp [e]
set_option maxHeartbeats 4000000 in
set_option maxRecDepth 100000 in
theorem lp_giveBack {p : Program} {l : Launch} {e : Env} {s : State} {m : MethodId} {args : Array Value} {below : List Frame} {meth : Method} {c : Code} {A : Nat → Prop} {D : va_G} {K : gCl} {ws0 : va_W} {rm : Room} {wsF : va_W} {a o q0 q1 z t : Nat} {sd ho bk : Int32} {f : Nat → Int32} (hne : q0 ≠ q1) (hz : z ≤ 20) (ht : t < 2 ^ 20)
    (I : gIn p s m meth c A yX1_giveBack wsX1_giveBack cX1_giveBack 3 none args D vwCl (gT K) ws0)  :
    ∀ (k : Nat) (i : Nat) (ws : va_W) (H : Heap) (locs : List Loc), i + k = z → ws[q0]? = some (a, gRow o (nI z) sd ho bk) → ws[q1]? = some (o, gArr K.1 20 (gbF t f i)) → ws.set q1 (o, gArr K.1 20 (gbF t f z)) = wsF → va_P D vwCl (ws) H → va_D A (ws) → va_S A s.heap H locs →
    ∀ (ls : Array Slot), lv_has ls 3 [(2, .int (nI i)), (0, .ref a), (1, .int (nI t))] →
    W p l e rm s m args below meth c H locs 0 0 (MQ below (va_Qv (fun w => w = wsF) (gB D vwCl (gT K) A) A) args s 0 0 A) (F0 m 17 ls []) := by
  have I0 := I
  obtain ⟨hx, hb, hr, hml, hown, hts, hlocks, hnm, hA, hK, -, -, -⟩ := I
  have hown : s.vm.findClass RX1 = some m.cls := hown
  have hi_X1 : ∀ w ∈ u_ws RX1 TX1 5, w ∈ wsX1_giveBack := by decide +kernel
  intro k
  induction k with
  | zero =>
    intro i ws H locs hi he0 he1 hF hP hD hS ls hl
    have hiz : i = z := by omega
    subst hiz
    refine lv_iload_n hx hb dX1_giveBack_17 rfl (lv_at hl 0 rfl) ?_
    refine lv_aload_n hx hb dX1_giveBack_18 rfl (lv_at hl 1 rfl) ?_
    refine va_get (C := RX1) (T := TX1) (N := 5) (ci := 1) hx hb hts hi_X1 hown hK hP (q0) (he0) rfl 1 (by decide) (hts (.fieldLink RX1 15 "GroupSeats$Row" "size" "I") (by decide +kernel)) (fun _ h9 => h9) rfl dX1_giveBack_19 ?_
    refine lv_icmp_ge (tgt := 47) hx hb dX1_giveBack_22 (by decide) (fun c22 => ?_) (fun c22 => ?_)
    · exact g_vret hx hb hr hlocks (Nat.le_of_ble_eq_true rfl) (Nat.le_of_ble_eq_true rfl) hK hP hD hS dX1_giveBack_47 ((g_setid he1).symm.trans hF)
    · exact absurd (nI_le (by omega) (by omega)) c22
  | succ k ih =>
    intro i ws H locs hi he0 he1 hF hP hD hS ls hl
    refine lv_iload_n hx hb dX1_giveBack_17 rfl (lv_at hl 0 rfl) ?_
    refine lv_aload_n hx hb dX1_giveBack_18 rfl (lv_at hl 1 rfl) ?_
    refine va_get (C := RX1) (T := TX1) (N := 5) (ci := 1) hx hb hts hi_X1 hown hK hP (q0) (he0) rfl 1 (by decide) (hts (.fieldLink RX1 15 "GroupSeats$Row" "size" "I") (by decide +kernel)) (fun _ h9 => h9) rfl dX1_giveBack_19 ?_
    refine lv_icmp_ge (tgt := 47) hx hb dX1_giveBack_22 (by decide) (fun c22 => ?_) (fun c22 => ?_)
    · exact absurd c22 (nI_ge (by omega) (by omega))
    · refine lv_iload_n hx hb dX1_giveBack_25 rfl (lv_at hl 2 rfl) ?_
      refine lv_iconst (v := 1) hx hb dX1_giveBack_26 (by decide) ?_
      refine lv_iload_n hx hb dX1_giveBack_27 rfl (lv_at hl 0 rfl) ?_
      refine lv_ishl hx hb dX1_giveBack_28 ?_
      refine lv_iand hx hb dX1_giveBack_29 ?_
      refine lv_if_eq (tgt := 41) hx hb dX1_giveBack_30 (by decide) (fun c30 => ?_) (fun c30 => ?_)
      · refine lv_iinc (lv' := [(2, .int _), (0, .ref _), (1, .int _)]) hx hb dX1_giveBack_41 hl (k := 0) rfl rfl (by decide) rfl (fun ls hl => ?_)
        refine lv_goto (tgt := 17) hx hb dX1_giveBack_44 (by decide) ?_
        rw [bit_test ht (by omega)] at c30
        rw [g_inc] at hl
        rw [gbF_no c30] at he1
        exact ih (i + 1) _ H locs (by omega) he0 he1 hF hP hD hS ls (lv_sub hl [0, 1, 2] rfl)
      · refine lv_aload_n hx hb dX1_giveBack_33 rfl (lv_at hl 1 rfl) ?_
        refine va_get (C := RX1) (T := TX1) (N := 5) (ci := 1) hx hb hts hi_X1 hown hK hP (q0) (he0) rfl 0 (by decide) (hts (.fieldLink RX1 9 "GroupSeats$Row" "owners" "[I") (by decide +kernel)) (fun _ h9 => h9) rfl dX1_giveBack_34 ?_
        refine lv_iload_n hx hb dX1_giveBack_37 rfl (lv_at hl 0 rfl) ?_
        refine lv_bipush (v := -8) hx hb dX1_giveBack_38 (by decide) ?_
        refine va_iast hx hb hK hP hD hS (q1) 0 (he1) rfl (vp_in_nI (show i < 20 by omega) (by decide)) dX1_giveBack_40 (fun H locs hP hD hS => ?_)
        refine lv_iinc (lv' := [(2, .int _), (0, .ref _), (1, .int _)]) hx hb dX1_giveBack_41 hl (k := 0) rfl rfl (by decide) rfl (fun ls hl => ?_)
        refine lv_goto (tgt := 17) hx hb dX1_giveBack_44 (by decide) ?_
        rw [bit_test ht (by omega)] at c30
        rw [g_inc] at hl
        have c30 : t.testBit i = true := by simpa using c30
        rw [nI_clamp (by omega), gbF_yes c30] at hP hD
        exact ih (i + 1) _ H locs (by omega) (g_setne (Ne.symm hne) he0) (g_setself he1) (by rw [List.set_set]; exact hF) hP hD hS ls (lv_sub hl [0, 1, 2] rfl)
theorem gbF_t0 (f : Nat → Int32) (n : Nat) : gbF 0 f n = f := by funext j; simp [gbF]
def gbB (t : Nat) (bk : Int32) : Int32 := if t = 0 then bk else bk + 1
set_option maxHeartbeats 4000000 in
set_option maxRecDepth 100000 in
/-- Row.giveBack(t) -/
theorem c_giveBack (l : Launch) (D : va_G) (K : gCl) (ws : va_W) (a o q0 q1 z : Nat) (sd ho bk : Int32) (f : Nat → Int32) (t : Nat) (sz : Nat) (hne : q0 ≠ q1) (ht : t < 2 ^ 20) (hz : z ≤ 20) (he0 : ws[q0]? = some (a, gRow o (nI z) sd ho bk)) (he1 : ws[q1]? = some (o, gArr K.1 20 f)) : gMv l yX1_giveBack wsX1_giveBack ({ frames := 0, cells := 0, slots := 0, locals := 0 } : Room) D vwCl (gT K) [.ref a, .int (nI t)] (ws) sz (fun w => w = (ws.set q0 (a, gRow o (nI z) sd ho (gbB t bk))).set q1 (o, gArr K.1 20 (gbF t f z))) 0 0 := by
  refine g_of (cc := cX1_giveBack) (maxL := 3) (ret := none) (Qc := fun A => va_Qv (fun w => w = (ws.set q0 (a, gRow o (nI z) sd ho (gbB t bk))).set q1 (o, gArr K.1 20 (gbF t f z))) (gB D vwCl (gT K) A) A) (by decide) rfl (Nat.le_of_ble_eq_true rfl) ?_
  intro p e s m below meth c A ls I hl
  have I0 := I
  obtain ⟨hx, hb, hr, hml, hown, hts, hlocks, hnm, hA, hK, hP, hD, hS⟩ := I
  have hown : s.vm.findClass RX1 = some m.cls := hown
  have hl : lv_has ls 3 [(0, .ref a), (1, .int (nI t))] := hl
  have hi_X1 : ∀ w ∈ u_ws RX1 TX1 5, w ∈ wsX1_giveBack := by decide +kernel
  refine lv_iload_n hx hb dX1_giveBack_0 rfl (lv_at hl 1 rfl) ?_
  refine lv_if_ne (tgt := 5) hx hb dX1_giveBack_1 (by decide) (fun c1 => ?_) (fun c1 => ?_)
  · refine lv_aload_n hx hb dX1_giveBack_5 rfl (lv_at hl 0 rfl) ?_
    refine lv_dup hx hb dX1_giveBack_6 rfl ?_
    refine va_get (C := RX1) (T := TX1) (N := 5) (ci := 1) hx hb hts hi_X1 hown hK hP (q0) (he0) rfl 4 (by decide) (hts (.fieldLink RX1 23 "GroupSeats$Row" "backs" "I") (by decide +kernel)) (fun _ h9 => h9) rfl dX1_giveBack_7 ?_
    refine lv_iconst (v := 1) hx hb dX1_giveBack_10 (by decide) ?_
    refine lv_iadd hx hb dX1_giveBack_11 ?_
    refine va_put (C := RX1) (T := TX1) (N := 5) (ci := 1) (ty := .int) hx hb hts hi_X1 tyX1 tyX1_ok nmX1 hown hK hP hD hS (q0) (he0) rfl 4 (by decide) (hts (.fieldLink RX1 23 "GroupSeats$Row" "backs" "I") (by decide +kernel)) (fun _ h9 => h9) rfl (by decide +kernel) rfl rfl (Nat.le_of_ble_eq_true rfl) dX1_giveBack_12 (fun H locs hP hD hS => ?_)
    refine lv_iconst (v := 0) hx hb dX1_giveBack_15 (by decide) ?_
    refine lv_istore_n (lv' := [(2, .int _), (0, .ref _), (1, .int _)]) hx hb dX1_giveBack_16 rfl hl (by decide) rfl (fun ls hl => ?_)
    have ht0 : t ≠ 0 := fun h => c1 (by rw [h]; rfl)
    exact lp_giveBack hne hz ht I0 z 0 _ _ _ (by omega) (g_setself he0) (by rw [gbF_0]; exact g_setne hne he1) (by simp only [gbB, if_neg ht0, List.set]) hP hD hS ls (lv_sub hl [0, 1, 2] rfl)
  · exact g_vret hx hb hr hlocks (Nat.le_of_ble_eq_true rfl) (Nat.le_of_ble_eq_true rfl) hK hP hD hS dX1_giveBack_4 (by have ht0 : t = 0 := (nI_eq (by omega) (by decide)).mp c1; subst ht0; rw [gbF_t0, show gbB 0 bk = bk from rfl, g_setid he0, g_setid he1])
end
section
/-! class's way to the best stretch: what holds at its loop's head -/
def JB (f : Nat → Int32) (z w i s b n : Nat) : Prop :=
  i ≤ z ∧ b ≤ w ∧ n ≤ i ∧ (∀ k, i - n ≤ k → k < i → f k = -8) ∧ (n < i → f (i - n - 1) ≠ -8) ∧ s + b ≤ i ∧ (∀ k, s ≤ k → k < s + b → f k = -8) ∧
    (∀ k, k + b + 1 ≤ i → ∃ j, k ≤ j ∧ j ≤ k + b ∧ f j ≠ -8) ∧ ∀ k, k < s → ∃ j, k ≤ j ∧ j < k + b ∧ f j ≠ -8
theorem JB_0 {f : Nat → Int32} {z w : Nat} : JB f z w 0 0 0 0 :=
  ⟨by omega, by omega, by omega, fun k _ h => by omega, fun h => by omega, by omega, fun k _ h => by omega, fun k h => by omega, fun k h => by omega⟩
theorem JB_no {f : Nat → Int32} {z w i s b n : Nat} (h : JB f z w i s b n) (hi : i < z) (hf : f i ≠ -8) : JB f z w (i + 1) s b 0 := by
  obtain ⟨h1, h2, h3, h4, h5, h6, h7, h8, h9⟩ := h
  refine ⟨by omega, h2, by omega, fun k a c => by omega, fun _ => by rw [show i + 1 - 0 - 1 = i by omega]; exact hf, by omega, h7, fun k hk => ?_, h9⟩
  by_cases e : k + b + 1 ≤ i
  · exact h8 k e
  · exact ⟨i, by omega, by omega, hf⟩
theorem JB_in {f : Nat → Int32} {z w i s b n : Nat} (h : JB f z w i s b n) (hi : i < z) (hf : f i = -8) (hn : n + 1 ≤ b) : JB f z w (i + 1) s b (n + 1) := by
  obtain ⟨h1, h2, h3, h4, h5, h6, h7, h8, h9⟩ := h
  refine ⟨by omega, h2, by omega, fun k a c => ?_, fun a => ?_, by omega, h7, fun k hk => ?_, h9⟩
  · by_cases e : k = i
    · rw [e]; exact hf
    · exact h4 k (by omega) (by omega)
  · rw [show i + 1 - (n + 1) - 1 = i - n - 1 by omega]
    exact h5 (by omega)
  · by_cases e : k + b + 1 ≤ i
    · exact h8 k e
    · exact ⟨i - n - 1, by omega, by omega, h5 (by omega)⟩
theorem JB_up {f : Nat → Int32} {z w i s b n : Nat} (h : JB f z w i s b n) (hi : i < z) (hw : b < w) (hf : f i = -8) (hn : b < n + 1) : JB f z w (i + 1) (i + 1 - (n + 1)) (n + 1) (n + 1) := by
  obtain ⟨h1, h2, h3, h4, h5, h6, h7, h8, h9⟩ := h
  have hnb : n = b := by
    rcases Nat.lt_or_ge b n with q | q
    · obtain ⟨j, a, c, d⟩ := h8 (i - n) (by omega)
      exact absurd (h4 j a (by omega)) d
    · omega
  subst hnb
  have hfr : ∀ k, i + 1 - (n + 1) ≤ k → k < i + 1 → f k = -8 := fun k a c => by
    by_cases e : k = i
    · rw [e]; exact hf
    · exact h4 k (by omega) (by omega)
  refine ⟨by omega, by omega, by omega, hfr, fun a => ?_, by omega, fun k a c => hfr k a (by omega), fun k hk => ?_, fun k hk => ?_⟩
  · rw [show i + 1 - (n + 1) - 1 = i - n - 1 by omega]
    exact h5 (by omega)
  · obtain ⟨j, a, c, d⟩ := h8 k (by omega)
    exact ⟨j, a, by omega, d⟩
  · obtain ⟨j, a, c, d⟩ := h8 k (by omega)
    exact ⟨j, a, by omega, d⟩
theorem JB_end {f : Nat → Int32} {z w i s b n : Nat} (h : JB f z w i s b n) (he : i = z ∨ w ≤ b) : isBs f z w s := by
  obtain ⟨h1, h2, h3, h4, h5, h6, h7, h8, h9⟩ := h
  have hr : b ≤ runL f (z - s) s := runL_ge f (z - s) s b (by omega) h7
  have hs : b ≤ valS f z w s := by unfold valS; omega
  refine ⟨by omega, fun k hk => ?_, fun k hk => ?_⟩
  · rcases he with e | e
    · have : runL f (z - k) k ≤ b := by
        rcases Nat.lt_or_ge b (runL f (z - k) k) with q | q
        · have := runL_le f (z - k) k
          obtain ⟨j, a, c, d⟩ := h8 k (by omega)
          exact absurd (runL_free f (z - k) k j a (by omega)) d
        · exact q
      unfold valS at hs ⊢
      omega
    · unfold valS at hs ⊢
      omega
  · obtain ⟨j, a, c, d⟩ := h9 k hk
    have := runL_lt (n := z - k) a d
    unfold valS at hs ⊢
    omega
/-! the taking -/
def lim (sd : Int32) (f : Nat → Int32) (n i c : Nat) : Nat := if sd = 0 then c else min (runL f n i) c
theorem lim_0 {sd : Int32} {f : Nat → Int32} {n i : Nat} : lim sd f n i 0 = 0 := by unfold lim; split <;> omega
theorem lim_stop {sd : Int32} {f : Nat → Int32} {n i c : Nat} (hs : sd ≠ 0) (hf : f i ≠ -8) : lim sd f n i c = 0 := by
  have := runL_lt (n := n) (Nat.le_refl i) hf
  unfold lim
  rw [if_neg hs]
  omega
theorem tk_no {b sd : Int32} {f : Nat → Int32} {k i c t : Nat} (hs : sd = 0) (hf : f i ≠ -8) : mkF b (k + 1) i (lim sd f (k + 1) i c) f = mkF b k (i + 1) (lim sd f k (i + 1) c) f ∧ mkT f (k + 1) i (lim sd f (k + 1) i c) t = mkT f k (i + 1) (lim sd f k (i + 1) c) t := by
  unfold lim
  rw [if_pos hs, if_pos hs]
  by_cases hc : c = 0
  · subst hc
    rw [mkF_0, mkF_0, mkT_0, mkT_0]
    exact ⟨rfl, rfl⟩
  · constructor
    · rw [mkF, if_neg hc, if_neg hf]
    · rw [mkT, if_neg hc, if_neg hf]
theorem tk_yes {b sd : Int32} {f : Nat → Int32} {k i c t : Nat} (hf : f i = -8) : mkF b (k + 1) i (lim sd f (k + 1) i (c + 1)) f = mkF b k (i + 1) (lim sd (upd f i b) k (i + 1) c) (upd f i b) ∧ mkT f (k + 1) i (lim sd f (k + 1) i (c + 1)) t = mkT (upd f i b) k (i + 1) (lim sd (upd f i b) k (i + 1) c) (t + 2 ^ i) := by
  have e : lim sd f (k + 1) i (c + 1) = lim sd (upd f i b) k (i + 1) c + 1 := by
    unfold lim
    split
    · rfl
    · rw [runL, if_pos hf, runL_congr (f := f) (g := upd f i b) k (i + 1) (fun j hj => (upd_after j hj).symm)]
      omega
  rw [e]
  constructor
  · rw [mkF, if_neg (by omega), if_pos hf, Nat.add_sub_cancel]
  · rw [mkT, if_neg (by omega), if_pos hf, Nat.add_sub_cancel]
    exact mkT_congr _ _ _ _ (fun j hj => (upd_after j hj).symm)
theorem or_bit {t i : Nat} (ht : t < 2 ^ i) (hi : i < 20) : nI t ||| ((1 : Int32) <<< (nI i &&& 31)) = nI (t + 2 ^ i) := by
  rw [sh_one (by omega)]
  apply Int32.toBitVec_inj.1
  show BitVec.ofNat 32 t ||| BitVec.ofNat 32 (2 ^ i) = BitVec.ofNat 32 (t + 2 ^ i)
  have h1 : t < 2 ^ 20 := Nat.lt_trans ht (Nat.pow_lt_pow_right (by decide) hi)
  have h2 : 2 ^ i < 2 ^ 20 := Nat.pow_lt_pow_right (by decide) hi
  apply BitVec.eq_of_toNat_eq
  rw [BitVec.toNat_or]
  simp only [BitVec.toNat_ofNat]
  rw [Nat.mod_eq_of_lt (by omega), Nat.mod_eq_of_lt (by omega), Nat.mod_eq_of_lt (by omega)]
  apply Nat.eq_of_testBit_eq
  intro j
  rw [Nat.testBit_or, tb_add ht, Nat.testBit_two_pow]
  congr 1
  simp [eq_comm]
/-! the JDK's count, on the machine's numbers -/
theorem lt_1431655765 : (1431655765 : Int32) = nI 1431655765 := by decide +kernel
theorem lt_858993459 : (858993459 : Int32) = nI 858993459 := by decide +kernel
theorem lt_252645135 : (252645135 : Int32) = nI 252645135 := by decide +kernel
theorem lt_63 : (63 : Int32) = nI 63 := by decide +kernel
theorem bw_1 {t y : Nat} (ht : t < 2 ^ 24) (h : y + (t / 2 &&& 1431655765) = t) : nI t - (((nI t).toUInt32 >>> ((1 : Int32).toUInt32 &&& Int32.toUInt32 31)).toInt32 &&& 1431655765) = nI y := by
  rw [pk_ushrN (by omega) 1 1 (by decide), lt_1431655765, nx_and, Nat.pow_one, pk_sub (by omega)]
  congr 1
  omega
theorem bw_2 {t y : Nat} (ht : t < 2 ^ 24) (h : y = (t &&& 858993459) + (t / 4 &&& 858993459)) : (nI t &&& 858993459) + (((nI t).toUInt32 >>> ((2 : Int32).toUInt32 &&& Int32.toUInt32 31)).toInt32 &&& 858993459) = nI y := by
  rw [pk_ushrN (by omega) 2 2 (by decide), lt_858993459, nx_and, nx_and, nI_add, h]
theorem bw_3 {t y : Nat} (ht : t < 2 ^ 24) (h : y = (t + t / 16) &&& 252645135) : (nI t + ((nI t).toUInt32 >>> ((4 : Int32).toUInt32 &&& Int32.toUInt32 31)).toInt32) &&& 252645135 = nI y := by
  rw [pk_ushrN (by omega) 4 4 (by decide), lt_252645135, nI_add, nx_and, h]
theorem bw_4 {t y : Nat} (ht : t < 2 ^ 24) (h : y = t + t / 256) : nI t + ((nI t).toUInt32 >>> ((8 : Int32).toUInt32 &&& Int32.toUInt32 31)).toInt32 = nI y := by
  rw [pk_ushrN (by omega) 8 8 (by decide), nI_add, h]
theorem bw_5 {t y : Nat} (ht : t < 2 ^ 24) (h : y = t + t / 65536) : nI t + ((nI t).toUInt32 >>> ((16 : Int32).toUInt32 &&& Int32.toUInt32 31)).toInt32 = nI y := by
  rw [pk_ushrN (by omega) 16 16 (by decide), nI_add, h]
theorem bw_6 {t : Nat} : nI t &&& 63 = nI (t % 64) := by
  rw [lt_63, nx_and, show (63 : Nat) = 2 ^ 6 - 1 from rfl, Nat.and_two_pow_sub_one_eq_mod]
set_option maxHeartbeats 4000000 in
set_option maxRecDepth 100000 in
theorem lp_best {p : Program} {l : Launch} {e : Env} {s : State} {m : MethodId} {args : Array Value} {below : List Frame} {meth : Method} {c : Code} {A : Nat → Prop} {D : va_G} {K : gCl} {ws0 : va_W} {rm : Room} {ws : va_W} {a o q0 q1 z : Nat} {sd ho bk : Int32} {f : Nat → Int32} {w : Nat} (hw : w < 2 ^ 20) (hz : z ≤ 20) (he0 : ws[q0]? = some (a, gRow o (nI z) sd ho bk)) (he1 : ws[q1]? = some (o, gArr K.1 20 f))
    (I : gIn p s m meth c A yX1_bestStretch wsX1_bestStretch cX1_bestStretch 6 (some .int) args D vwCl (gT K) ws0)  :
    ∀ (k : Nat) (i s0 b0 n0 : Nat) (H : Heap) (locs : List Loc), i + k = z → JB f z w i s0 b0 n0 → va_P D vwCl (ws) H → va_D A (ws) → va_S A s.heap H locs →
    ∀ (ls : Array Slot), lv_has ls 6 [(5, .int (nI i)), (4, .int (nI n0)), (3, .int (nI b0)), (2, .int (nI s0)), (0, .ref a), (1, .int (nI w))] →
    W p l e rm s m args below meth c H locs 0 0 (MQ below (va_Qi (fun r w1 => w1 = ws ∧ ∃ x : Nat, r = nI x ∧ isBs f z w x) (gB D vwCl (gT K) A) A) args s 0 0 A) (F0 m 10 ls []) := by
  have I0 := I
  obtain ⟨hx, hb, hr, hml, hown, hts, hlocks, hnm, hA, hK, -, -, -⟩ := I
  have hown : s.vm.findClass RX1 = some m.cls := hown
  have hi_X1 : ∀ w ∈ u_ws RX1 TX1 5, w ∈ wsX1_bestStretch := by decide +kernel
  intro k
  induction k with
  | zero =>
    intro i s0 b0 n0 H locs hi hJ hP hD hS ls hl
    have hJ1 := hJ.2.1
    refine lv_iload hx hb dX1_bestStretch_10 (lv_at hl 0 rfl) ?_
    refine lv_aload_n hx hb dX1_bestStretch_12 rfl (lv_at hl 4 rfl) ?_
    refine va_get (C := RX1) (T := TX1) (N := 5) (ci := 1) hx hb hts hi_X1 hown hK hP (q0) (he0) rfl 1 (by decide) (hts (.fieldLink RX1 15 "GroupSeats$Row" "size" "I") (by decide +kernel)) (fun _ h9 => h9) rfl dX1_bestStretch_13 ?_
    refine lv_icmp_ge (tgt := 69) hx hb dX1_bestStretch_16 (by decide) (fun c16 => ?_) (fun c16 => ?_)
    · refine lv_iload_n hx hb dX1_bestStretch_69 rfl (lv_at hl 3 rfl) ?_
      exact g_iret hx hb hr hlocks (Nat.le_of_ble_eq_true rfl) (Nat.le_of_ble_eq_true rfl) hK hP hD hS dX1_bestStretch_70 (⟨rfl, s0, rfl, JB_end hJ (Or.inl (by omega))⟩)
    · exact absurd (nI_le (by omega) (by omega)) c16
  | succ k ih =>
    intro i s0 b0 n0 H locs hi hJ hP hD hS ls hl
    have hJ1 := hJ.2.1
    have hJ2 := hJ.2.2.1
    refine lv_iload hx hb dX1_bestStretch_10 (lv_at hl 0 rfl) ?_
    refine lv_aload_n hx hb dX1_bestStretch_12 rfl (lv_at hl 4 rfl) ?_
    refine va_get (C := RX1) (T := TX1) (N := 5) (ci := 1) hx hb hts hi_X1 hown hK hP (q0) (he0) rfl 1 (by decide) (hts (.fieldLink RX1 15 "GroupSeats$Row" "size" "I") (by decide +kernel)) (fun _ h9 => h9) rfl dX1_bestStretch_13 ?_
    refine lv_icmp_ge (tgt := 69) hx hb dX1_bestStretch_16 (by decide) (fun c16 => ?_) (fun c16 => ?_)
    · exact absurd c16 (nI_ge (by omega) (by omega))
    · refine lv_iload_n hx hb dX1_bestStretch_19 rfl (lv_at hl 2 rfl) ?_
      refine lv_iload_n hx hb dX1_bestStretch_20 rfl (lv_at hl 5 rfl) ?_
      refine lv_icmp_ge (tgt := 69) hx hb dX1_bestStretch_21 (by decide) (fun c21 => ?_) (fun c21 => ?_)
      · refine lv_iload_n hx hb dX1_bestStretch_69 rfl (lv_at hl 3 rfl) ?_
        exact g_iret hx hb hr hlocks (Nat.le_of_ble_eq_true rfl) (Nat.le_of_ble_eq_true rfl) hK hP hD hS dX1_bestStretch_70 (⟨rfl, s0, rfl, JB_end hJ (Or.inr ((nI_leI (by omega) (by omega)).mp c21))⟩)
      · have hbw : b0 < w := Nat.lt_of_not_le (fun q => c21 (nI_le q (by omega)))
        refine lv_aload_n hx hb dX1_bestStretch_24 rfl (lv_at hl 4 rfl) ?_
        refine va_get (C := RX1) (T := TX1) (N := 5) (ci := 1) hx hb hts hi_X1 hown hK hP (q0) (he0) rfl 0 (by decide) (hts (.fieldLink RX1 9 "GroupSeats$Row" "owners" "[I") (by decide +kernel)) (fun _ h9 => h9) rfl dX1_bestStretch_25 ?_
        refine lv_iload hx hb dX1_bestStretch_28 (lv_at hl 0 rfl) ?_
        refine va_iald hx hb hK hP (q1) 0 (he1) rfl (vp_in_nI (show i < 20 by omega) (by decide)) dX1_bestStretch_30 ?_
        refine lv_bipush (v := -8) hx hb dX1_bestStretch_31 (by decide) ?_
        refine lv_icmp_ne (tgt := 43) hx hb dX1_bestStretch_33 (by decide) (fun c33 => ?_) (fun c33 => ?_)
        · refine lv_iconst (v := 0) hx hb dX1_bestStretch_43 (by decide) ?_
          refine lv_istore (lv' := [(4, .int _), (5, .int _), (3, .int _), (2, .int _), (0, .ref _), (1, .int _)]) hx hb dX1_bestStretch_44 hl (by decide) rfl (fun ls hl => ?_)
          refine lv_iload hx hb dX1_bestStretch_46 (lv_at hl 0 rfl) ?_
          refine lv_iload_n hx hb dX1_bestStretch_48 rfl (lv_at hl 2 rfl) ?_
          refine lv_icmp_le (tgt := 63) hx hb dX1_bestStretch_49 (by decide) (fun c49 => ?_) (fun c49 => ?_)
          · refine lv_iinc (lv' := [(5, .int _), (4, .int _), (3, .int _), (2, .int _), (0, .ref _), (1, .int _)]) hx hb dX1_bestStretch_63 hl (k := 1) rfl rfl (by decide) rfl (fun ls hl => ?_)
            refine lv_goto (tgt := 10) hx hb dX1_bestStretch_66 (by decide) ?_
            rw [nI_clamp (by omega)] at c33
            rw [g_inc] at hl
            exact ih (i + 1) s0 b0 0 H locs (by omega) (JB_no hJ (by omega) c33) hP hD hS ls (lv_sub hl [0, 1, 2, 3, 4, 5] rfl)
          · exact absurd (nI_pos' (by omega)) c49
        · refine lv_iload hx hb dX1_bestStretch_36 (lv_at hl 1 rfl) ?_
          refine lv_iconst (v := 1) hx hb dX1_bestStretch_38 (by decide) ?_
          refine lv_iadd hx hb dX1_bestStretch_39 ?_
          refine lv_goto (tgt := 44) hx hb dX1_bestStretch_40 (by decide) ?_
          refine lv_istore (lv' := [(4, .int _), (5, .int _), (3, .int _), (2, .int _), (0, .ref _), (1, .int _)]) hx hb dX1_bestStretch_44 hl (by decide) rfl (fun ls hl => ?_)
          refine lv_iload hx hb dX1_bestStretch_46 (lv_at hl 0 rfl) ?_
          refine lv_iload_n hx hb dX1_bestStretch_48 rfl (lv_at hl 2 rfl) ?_
          refine lv_icmp_le (tgt := 63) hx hb dX1_bestStretch_49 (by decide) (fun c49 => ?_) (fun c49 => ?_)
          · refine lv_iinc (lv' := [(5, .int _), (4, .int _), (3, .int _), (2, .int _), (0, .ref _), (1, .int _)]) hx hb dX1_bestStretch_63 hl (k := 1) rfl rfl (by decide) rfl (fun ls hl => ?_)
            refine lv_goto (tgt := 10) hx hb dX1_bestStretch_66 (by decide) ?_
            rw [nI_clamp (by omega)] at c33
            rw [nI_1] at c49 hl
            rw [g_inc] at hl
            have hnb := (nI_leI (by omega) (by omega)).mp c49
            exact ih (i + 1) s0 b0 (n0 + 1) H locs (by omega) (JB_in hJ (by omega) c33 hnb) hP hD hS ls (lv_sub hl [0, 1, 2, 3, 4, 5] rfl)
          · refine lv_iload hx hb dX1_bestStretch_52 (lv_at hl 0 rfl) ?_
            refine lv_istore_n (lv' := [(3, .int _), (4, .int _), (5, .int _), (2, .int _), (0, .ref _), (1, .int _)]) hx hb dX1_bestStretch_54 rfl hl (by decide) rfl (fun ls hl => ?_)
            refine lv_iload hx hb dX1_bestStretch_55 (lv_at hl 2 rfl) ?_
            refine lv_iconst (v := 1) hx hb dX1_bestStretch_57 (by decide) ?_
            refine lv_iadd hx hb dX1_bestStretch_58 ?_
            refine lv_iload hx hb dX1_bestStretch_59 (lv_at hl 1 rfl) ?_
            refine lv_isub hx hb dX1_bestStretch_61 ?_
            refine lv_istore_n (lv' := [(2, .int _), (3, .int _), (4, .int _), (5, .int _), (0, .ref _), (1, .int _)]) hx hb dX1_bestStretch_62 rfl hl (by decide) rfl (fun ls hl => ?_)
            refine lv_iinc (lv' := [(5, .int _), (2, .int _), (3, .int _), (4, .int _), (0, .ref _), (1, .int _)]) hx hb dX1_bestStretch_63 hl (k := 3) rfl rfl (by decide) rfl (fun ls hl => ?_)
            refine lv_goto (tgt := 10) hx hb dX1_bestStretch_66 (by decide) ?_
            rw [nI_clamp (by omega)] at c33
            rw [nI_1] at c49
            rw [nI_1, nI_1, pk_sub (by omega), g_inc] at hl
            have hnb : b0 < n0 + 1 := Nat.lt_of_not_le (fun q => c49 (nI_le q (by omega)))
            exact ih (i + 1) (i + 1 - (n0 + 1)) (n0 + 1) (n0 + 1) H locs (by omega) (JB_up hJ (by omega) hbw c33 hnb) hP hD hS ls (lv_sub hl [0, 3, 2, 1, 4, 5] rfl)
set_option maxHeartbeats 4000000 in
set_option maxRecDepth 100000 in
/-- Row.bestStretch(w) -/
theorem c_best (l : Launch) (D : va_G) (K : gCl) (ws : va_W) (a o q0 q1 z : Nat) (sd ho bk : Int32) (f : Nat → Int32) (w : Nat) (sz : Nat) (hw : w < 2 ^ 20) (hz : z ≤ 20) (he0 : ws[q0]? = some (a, gRow o (nI z) sd ho bk)) (he1 : ws[q1]? = some (o, gArr K.1 20 f)) : gMi l yX1_bestStretch wsX1_bestStretch ({ frames := 0, cells := 0, slots := 0, locals := 0 } : Room) D vwCl (gT K) [.ref a, .int (nI w)] (ws) sz (fun r w1 => w1 = ws ∧ ∃ x : Nat, r = nI x ∧ isBs f z w x) 0 0 := by
  refine g_of (cc := cX1_bestStretch) (maxL := 6) (ret := (some .int)) (Qc := fun A => va_Qi (fun r w1 => w1 = ws ∧ ∃ x : Nat, r = nI x ∧ isBs f z w x) (gB D vwCl (gT K) A) A) (by decide) rfl (Nat.le_of_ble_eq_true rfl) ?_
  intro p e s m below meth c A ls I hl
  have I0 := I
  obtain ⟨hx, hb, hr, hml, hown, hts, hlocks, hnm, hA, hK, hP, hD, hS⟩ := I
  have hown : s.vm.findClass RX1 = some m.cls := hown
  have hl : lv_has ls 6 [(0, .ref a), (1, .int (nI w))] := hl
  have hi_X1 : ∀ w ∈ u_ws RX1 TX1 5, w ∈ wsX1_bestStretch := by decide +kernel
  refine lv_iconst (v := 0) hx hb dX1_bestStretch_0 (by decide) ?_
  refine lv_istore_n (lv' := [(2, .int _), (0, .ref _), (1, .int _)]) hx hb dX1_bestStretch_1 rfl hl (by decide) rfl (fun ls hl => ?_)
  refine lv_iconst (v := 0) hx hb dX1_bestStretch_2 (by decide) ?_
  refine lv_istore_n (lv' := [(3, .int _), (2, .int _), (0, .ref _), (1, .int _)]) hx hb dX1_bestStretch_3 rfl hl (by decide) rfl (fun ls hl => ?_)
  refine lv_iconst (v := 0) hx hb dX1_bestStretch_4 (by decide) ?_
  refine lv_istore (lv' := [(4, .int _), (3, .int _), (2, .int _), (0, .ref _), (1, .int _)]) hx hb dX1_bestStretch_5 hl (by decide) rfl (fun ls hl => ?_)
  refine lv_iconst (v := 0) hx hb dX1_bestStretch_7 (by decide) ?_
  refine lv_istore (lv' := [(5, .int _), (4, .int _), (3, .int _), (2, .int _), (0, .ref _), (1, .int _)]) hx hb dX1_bestStretch_8 hl (by decide) rfl (fun ls hl => ?_)
  exact lp_best hw hz he0 he1 I0 z 0 0 0 0 _ _ (by omega) JB_0 hP hD hS ls (lv_sub hl [0, 1, 2, 3, 4, 5] rfl)
set_option maxHeartbeats 4000000 in
set_option maxRecDepth 100000 in
theorem lp_take {p : Program} {l : Launch} {e : Env} {s : State} {m : MethodId} {args : Array Value} {below : List Frame} {meth : Method} {c : Code} {A : Nat → Prop} {D : va_G} {K : gCl} {ws0 : va_W} {rm : Room} {wsF : va_W} {a o q0 q1 z w s0 tF : Nat} {sd ho bk b : Int32} (hne : q0 ≠ q1) (hw : w < 2 ^ 20) (hz : z ≤ 20)
    (I : gIn p s m meth c A yX1_take wsX1_take cX1_take 7 (some .int) args D vwCl (gT K) ws0)  :
    ∀ (k : Nat) (i n t : Nat) (g : Nat → Int32) (ws : va_W) (H : Heap) (locs : List Loc), i + k = z → n ≤ w → t < 2 ^ i → ws[q0]? = some (a, gRow o (nI z) sd ho bk) → ws[q1]? = some (o, gArr K.1 20 g) → ws.set q1 (o, gArr K.1 20 (mkF b k i (lim sd g k i (w - n)) g)) = wsF → mkT g k i (lim sd g k i (w - n)) t = tF → va_P D vwCl (ws) H → va_D A (ws) → va_S A s.heap H locs →
    ∀ (ls : Array Slot), lv_has ls 7 [(6, .int (nI i)), (5, .int (nI n)), (4, .int (nI t)), (3, .int (nI s0)), (0, .ref a), (1, .int (nI w)), (2, .int b)] →
    W p l e rm s m args below meth c H locs 0 0 (MQ below (va_Qi (fun r w1 => w1 = wsF ∧ r = nI tF) (gB D vwCl (gT K) A) A) args s 0 0 A) (F0 m 26 ls []) := by
  have I0 := I
  obtain ⟨hx, hb, hr, hml, hown, hts, hlocks, hnm, hA, hK, -, -, -⟩ := I
  have hown : s.vm.findClass RX1 = some m.cls := hown
  have hi_X1 : ∀ w ∈ u_ws RX1 TX1 5, w ∈ wsX1_take := by decide +kernel
  intro k
  induction k with
  | zero =>
    intro i n t g ws H locs hi hn ht he0 he1 hF hT hP hD hS ls hl
    refine lv_iload hx hb dX1_take_26 (lv_at hl 0 rfl) ?_
    refine lv_aload_n hx hb dX1_take_28 rfl (lv_at hl 4 rfl) ?_
    refine va_get (C := RX1) (T := TX1) (N := 5) (ci := 1) hx hb hts hi_X1 hown hK hP (q0) (he0) rfl 1 (by decide) (hts (.fieldLink RX1 15 "GroupSeats$Row" "size" "I") (by decide +kernel)) (fun _ h9 => h9) rfl dX1_take_29 ?_
    refine lv_icmp_ge (tgt := 92) hx hb dX1_take_32 (by decide) (fun c32 => ?_) (fun c32 => ?_)
    · refine lv_iload hx hb dX1_take_92 (lv_at hl 2 rfl) ?_
      exact g_iret hx hb hr hlocks (Nat.le_of_ble_eq_true rfl) (Nat.le_of_ble_eq_true rfl) hK hP hD hS dX1_take_94 (⟨(g_setid he1).symm.trans hF, by rw [← hT]; rfl⟩)
    · exact absurd (nI_le (by omega) (by omega)) c32
  | succ k ih =>
    intro i n t g ws H locs hi hn ht he0 he1 hF hT hP hD hS ls hl
    refine lv_iload hx hb dX1_take_26 (lv_at hl 0 rfl) ?_
    refine lv_aload_n hx hb dX1_take_28 rfl (lv_at hl 4 rfl) ?_
    refine va_get (C := RX1) (T := TX1) (N := 5) (ci := 1) hx hb hts hi_X1 hown hK hP (q0) (he0) rfl 1 (by decide) (hts (.fieldLink RX1 15 "GroupSeats$Row" "size" "I") (by decide +kernel)) (fun _ h9 => h9) rfl dX1_take_29 ?_
    refine lv_icmp_ge (tgt := 92) hx hb dX1_take_32 (by decide) (fun c32 => ?_) (fun c32 => ?_)
    · exact absurd c32 (nI_ge (by omega) (by omega))
    · refine lv_iload hx hb dX1_take_35 (lv_at hl 1 rfl) ?_
      refine lv_iload_n hx hb dX1_take_37 rfl (lv_at hl 5 rfl) ?_
      refine lv_icmp_ge (tgt := 92) hx hb dX1_take_38 (by decide) (fun c38 => ?_) (fun c38 => ?_)
      · refine lv_iload hx hb dX1_take_92 (lv_at hl 2 rfl) ?_
        exact g_iret hx hb hr hlocks (Nat.le_of_ble_eq_true rfl) (Nat.le_of_ble_eq_true rfl) hK hP hD hS dX1_take_94 (by have e0 : w - n = 0 := (by have := (nI_leI (by omega) (by omega)).mp c38; omega); rw [e0, lim_0, mkF_0] at hF; rw [e0, lim_0, mkT_0] at hT; exact ⟨(g_setid he1).symm.trans hF, by rw [hT]⟩)
      · have hnw : n < w := Nat.lt_of_not_le (fun q => c38 (nI_le q (by omega)))
        refine lv_aload_n hx hb dX1_take_41 rfl (lv_at hl 4 rfl) ?_
        refine va_get (C := RX1) (T := TX1) (N := 5) (ci := 1) hx hb hts hi_X1 hown hK hP (q0) (he0) rfl 0 (by decide) (hts (.fieldLink RX1 9 "GroupSeats$Row" "owners" "[I") (by decide +kernel)) (fun _ h9 => h9) rfl dX1_take_42 ?_
        refine lv_iload hx hb dX1_take_45 (lv_at hl 0 rfl) ?_
        refine va_iald hx hb hK hP (q1) 0 (he1) rfl (vp_in_nI (show i < 20 by omega) (by decide)) dX1_take_47 ?_
        refine lv_bipush (v := -8) hx hb dX1_take_48 (by decide) ?_
        refine lv_icmp_ne (tgt := 76) hx hb dX1_take_50 (by decide) (fun c50 => ?_) (fun c50 => ?_)
        · refine lv_aload_n hx hb dX1_take_76 rfl (lv_at hl 4 rfl) ?_
          refine va_get (C := RX1) (T := TX1) (N := 5) (ci := 1) hx hb hts hi_X1 hown hK hP (q0) (he0) rfl 2 (by decide) (hts (.fieldLink RX1 19 "GroupSeats$Row" "sideBySide" "Z") (by decide +kernel)) (fun _ h9 => h9) rfl dX1_take_77 ?_
          refine lv_if_eq (tgt := 86) hx hb dX1_take_80 (by decide) (fun c80 => ?_) (fun c80 => ?_)
          · refine lv_iinc (lv' := [(6, .int _), (5, .int _), (4, .int _), (3, .int _), (0, .ref _), (1, .int _), (2, .int _)]) hx hb dX1_take_86 hl (k := 0) rfl rfl (by decide) rfl (fun ls hl => ?_)
            refine lv_goto (tgt := 26) hx hb dX1_take_89 (by decide) ?_
            rw [nI_clamp (by omega)] at c50
            obtain ⟨e1, e2⟩ := tk_no (b := b) (k := k) (c := w - n) (t := t) c80 c50
            rw [e1] at hF
            rw [e2] at hT
            rw [g_inc] at hl
            exact ih (i + 1) n t g ws H locs (by omega) hn (by have := Nat.pow_lt_pow_right (a := 2) (by decide) (show i < i + 1 by omega); omega) he0 he1 hF hT hP hD hS ls (lv_sub hl [0, 1, 2, 3, 4, 5, 6] rfl)
          · refine lv_goto (tgt := 92) hx hb dX1_take_83 (by decide) ?_
            refine lv_iload hx hb dX1_take_92 (lv_at hl 2 rfl) ?_
            exact g_iret hx hb hr hlocks (Nat.le_of_ble_eq_true rfl) (Nat.le_of_ble_eq_true rfl) hK hP hD hS dX1_take_94 (by rw [nI_clamp (by omega)] at c50; rw [lim_stop c80 c50, mkF_0] at hF; rw [lim_stop c80 c50, mkT_0] at hT; exact ⟨(g_setid he1).symm.trans hF, by rw [hT]⟩)
        · refine lv_aload_n hx hb dX1_take_53 rfl (lv_at hl 4 rfl) ?_
          refine va_get (C := RX1) (T := TX1) (N := 5) (ci := 1) hx hb hts hi_X1 hown hK hP (q0) (he0) rfl 0 (by decide) (hts (.fieldLink RX1 9 "GroupSeats$Row" "owners" "[I") (by decide +kernel)) (fun _ h9 => h9) rfl dX1_take_54 ?_
          refine lv_iload hx hb dX1_take_57 (lv_at hl 0 rfl) ?_
          refine lv_iload_n hx hb dX1_take_59 rfl (lv_at hl 6 rfl) ?_
          refine va_iast hx hb hK hP hD hS (q1) 0 (he1) rfl (vp_in_nI (show i < 20 by omega) (by decide)) dX1_take_60 (fun H locs hP hD hS => ?_)
          refine lv_iload hx hb dX1_take_61 (lv_at hl 2 rfl) ?_
          refine lv_iconst (v := 1) hx hb dX1_take_63 (by decide) ?_
          refine lv_iload hx hb dX1_take_64 (lv_at hl 0 rfl) ?_
          refine lv_ishl hx hb dX1_take_66 ?_
          refine lv_ior hx hb dX1_take_67 ?_
          refine lv_istore (lv' := [(4, .int _), (6, .int _), (5, .int _), (3, .int _), (0, .ref _), (1, .int _), (2, .int _)]) hx hb dX1_take_68 hl (by decide) rfl (fun ls hl => ?_)
          refine lv_iinc (lv' := [(5, .int _), (4, .int _), (6, .int _), (3, .int _), (0, .ref _), (1, .int _), (2, .int _)]) hx hb dX1_take_70 hl (k := 2) rfl rfl (by decide) rfl (fun ls hl => ?_)
          refine lv_goto (tgt := 86) hx hb dX1_take_73 (by decide) ?_
          refine lv_iinc (lv' := [(6, .int _), (5, .int _), (4, .int _), (3, .int _), (0, .ref _), (1, .int _), (2, .int _)]) hx hb dX1_take_86 hl (k := 2) rfl rfl (by decide) rfl (fun ls hl => ?_)
          refine lv_goto (tgt := 26) hx hb dX1_take_89 (by decide) ?_
          rw [nI_clamp (by omega)] at c50
          have hc1 : w - n = (w - (n + 1)) + 1 := by omega
          rw [hc1] at hF hT
          obtain ⟨e1, e2⟩ := tk_yes (b := b) (sd := sd) (k := k) (c := w - (n + 1)) (t := t) c50
          rw [e1] at hF
          rw [e2] at hT
          rw [nI_clamp (by omega)] at hP hD
          rw [or_bit ht (by omega), g_inc, g_inc] at hl
          exact ih (i + 1) (n + 1) (t + 2 ^ i) (upd g i b) _ H locs (by omega) (by omega) (by rw [Nat.pow_succ]; omega) (g_setne (Ne.symm hne) he0) (g_setself he1) (by rw [List.set_set]; exact hF) hT hP hD hS ls (lv_sub hl [0, 1, 2, 3, 4, 5, 6] rfl)
set_option maxHeartbeats 4000000 in
set_option maxRecDepth 100000 in
/-- Row.take(w, b) -/
theorem c_take (l : Launch) (D : va_G) (K : gCl) (ws : va_W) (a o q0 q1 z : Nat) (sd ho bk : Int32) (f : Nat → Int32) (w : Nat) (b : Int32) (sz : Nat) (hne : q0 ≠ q1) (hw : w < 2 ^ 20) (hz : z ≤ 20) (he0 : ws[q0]? = some (a, gRow o (nI z) sd ho bk)) (he1 : ws[q1]? = some (o, gArr K.1 20 f)) : gMi l yX1_take wsX1_take ({ frames := 1, cells := 0, slots := 0, locals := 40 } : Room) D vwCl (gT K) [.ref a, .int (nI w), .int b] (ws) sz (fun r w1 => w1 = ws.set q1 (o, gArr K.1 20 (tkF b f z sd w)) ∧ r = nI (mkT f (z - tkS f z sd w) (tkS f z sd w) (tkN f z sd w) 0)) 0 0 := by
  refine g_of (cc := cX1_take) (maxL := 7) (ret := (some .int)) (Qc := fun A => va_Qi (fun r w1 => w1 = ws.set q1 (o, gArr K.1 20 (tkF b f z sd w)) ∧ r = nI (mkT f (z - tkS f z sd w) (tkS f z sd w) (tkN f z sd w) 0)) (gB D vwCl (gT K) A) A) (by decide) rfl (Nat.le_of_ble_eq_true rfl) ?_
  intro p e s m below meth c A ls I hl
  have I0 := I
  obtain ⟨hx, hb, hr, hml, hown, hts, hlocks, hnm, hA, hK, hP, hD, hS⟩ := I
  have hown : s.vm.findClass RX1 = some m.cls := hown
  have hl : lv_has ls 7 [(0, .ref a), (1, .int (nI w)), (2, .int b)] := hl
  have hi_X1 : ∀ w ∈ u_ws RX1 TX1 5, w ∈ wsX1_take := by decide +kernel
  refine lv_aload_n hx hb dX1_take_0 rfl (lv_at hl 0 rfl) ?_
  refine va_get (C := RX1) (T := TX1) (N := 5) (ci := 1) hx hb hts hi_X1 hown hK hP (q0) (he0) rfl 2 (by decide) (hts (.fieldLink RX1 19 "GroupSeats$Row" "sideBySide" "Z") (by decide +kernel)) (fun _ h9 => h9) rfl dX1_take_1 ?_
  refine lv_if_eq (tgt := 15) hx hb dX1_take_4 (by decide) (fun c4 => ?_) (fun c4 => ?_)
  · refine lv_iconst (v := 0) hx hb dX1_take_15 (by decide) ?_
    refine lv_istore_n (lv' := [(3, .int _), (0, .ref _), (1, .int _), (2, .int _)]) hx hb dX1_take_16 rfl hl (by decide) rfl (fun ls hl => ?_)
    refine lv_iconst (v := 0) hx hb dX1_take_17 (by decide) ?_
    refine lv_istore (lv' := [(4, .int _), (3, .int _), (0, .ref _), (1, .int _), (2, .int _)]) hx hb dX1_take_18 hl (by decide) rfl (fun ls hl => ?_)
    refine lv_iconst (v := 0) hx hb dX1_take_20 (by decide) ?_
    refine lv_istore (lv' := [(5, .int _), (4, .int _), (3, .int _), (0, .ref _), (1, .int _), (2, .int _)]) hx hb dX1_take_21 hl (by decide) rfl (fun ls hl => ?_)
    refine lv_iload_n hx hb dX1_take_23 rfl (lv_at hl 2 rfl) ?_
    refine lv_istore (lv' := [(6, .int _), (5, .int _), (4, .int _), (3, .int _), (0, .ref _), (1, .int _), (2, .int _)]) hx hb dX1_take_24 hl (by decide) rfl (fun ls hl => ?_)
    have es : tkS f z sd w = 0 := if_pos c4
    have en : lim sd f (z - 0) 0 (w - 0) = tkN f z sd w := by unfold lim tkN; rw [if_pos c4, if_pos c4]; rfl
    exact lp_take (s0 := 0) (wsF := ws.set q1 (o, gArr K.1 20 (tkF b f z sd w))) (tF := mkT f (z - tkS f z sd w) (tkS f z sd w) (tkN f z sd w) 0) hne hw hz I0 (z - 0) 0 0 0 f ws _ _ (by omega) (by omega) (by omega) he0 he1 (by rw [en]; unfold tkF; rw [es]) (by rw [en, es]) hP hD hS ls (lv_sub hl [0, 1, 2, 3, 4, 5, 6] rfl)
  · refine lv_aload_n hx hb dX1_take_7 rfl (lv_at hl 0 rfl) ?_
    refine lv_iload_n hx hb dX1_take_8 rfl (lv_at hl 1 rfl) ?_
    refine g_calli (va_runV (As := [.int _]) (rest := []) ⟨hx, hb, hml, hown, hts⟩ (c_best l D K ws a o q0 q1 z sd ho bk f w _ hw hz he0 he1) (cwV 1 hts gX1_take_X1_bestStretch rfl rfl rfl (by decide +kernel) ⟨(Nat.le_of_ble_eq_true rfl), (Nat.le_of_ble_eq_true rfl)⟩) (g_preV hK hP hD (ci := 1) (q0 := q0) rfl (he0)) rfl rfl hl.1 rfl (lv_room (Nat.le_of_ble_eq_true rfl)) dX1_take_9 ⟨Nat.zero_le _, Nat.zero_le _⟩) hD hS hA (fun r9 w9 H locs hw9 hP hD hS => ?_)
    obtain ⟨ew, x, rfl, hx1⟩ := hw9
    rw [ew] at hP hD
    refine lv_goto (tgt := 16) hx hb dX1_take_12 (by decide) ?_
    refine lv_istore_n (lv' := [(3, .int _), (0, .ref _), (1, .int _), (2, .int _)]) hx hb dX1_take_16 rfl hl (by decide) rfl (fun ls hl => ?_)
    refine lv_iconst (v := 0) hx hb dX1_take_17 (by decide) ?_
    refine lv_istore (lv' := [(4, .int _), (3, .int _), (0, .ref _), (1, .int _), (2, .int _)]) hx hb dX1_take_18 hl (by decide) rfl (fun ls hl => ?_)
    refine lv_iconst (v := 0) hx hb dX1_take_20 (by decide) ?_
    refine lv_istore (lv' := [(5, .int _), (4, .int _), (3, .int _), (0, .ref _), (1, .int _), (2, .int _)]) hx hb dX1_take_21 hl (by decide) rfl (fun ls hl => ?_)
    refine lv_iload_n hx hb dX1_take_23 rfl (lv_at hl 2 rfl) ?_
    refine lv_istore (lv' := [(6, .int _), (5, .int _), (4, .int _), (3, .int _), (0, .ref _), (1, .int _), (2, .int _)]) hx hb dX1_take_24 hl (by decide) rfl (fun ls hl => ?_)
    have es : tkS f z sd w = x := by unfold tkS; rw [if_neg c4]; exact (isBs_eq hx1).symm
    have en : lim sd f (z - x) x (w - 0) = tkN f z sd w := by unfold lim tkN valS; rw [if_neg c4, if_neg c4, ← isBs_eq hx1]; rfl
    have hxz := hx1.1
    exact lp_take (s0 := x) (wsF := ws.set q1 (o, gArr K.1 20 (tkF b f z sd w))) (tF := mkT f (z - tkS f z sd w) (tkS f z sd w) (tkN f z sd w) 0) hne hw hz I0 (z - x) x 0 0 f ws _ _ (by omega) (by omega) (Nat.two_pow_pos x) he0 he1 (by rw [en]; unfold tkF; rw [es]) (by rw [en, es]) hP hD hS ls (lv_sub hl [0, 1, 2, 3, 4, 5, 6] rfl)
set_option maxHeartbeats 4000000 in
set_option maxRecDepth 100000 in
/-- Integer.bitCount -/
theorem c_bitCount (l : Launch) (D : va_G) (K : gCl) (ws : va_W) (t : Nat) (sz : Nat) (ht : t < 2 ^ 20) : gMi l yJ6_bitCount_0f7a4 wsJ6_bitCount_0f7a4 ({ frames := 0, cells := 0, slots := 0, locals := 0 } : Room) D vwCl (gT K) [.int (nI t)] (ws) sz (fun r w1 => w1 = ws ∧ r = nI (pcN t 20)) 0 0 := by
  refine g_of (cc := cJ6_bitCount_0f7a4) (maxL := 1) (ret := (some .int)) (Qc := fun A => va_Qi (fun r w1 => w1 = ws ∧ r = nI (pcN t 20)) (gB D vwCl (gT K) A) A) (by decide) rfl (Nat.le_of_ble_eq_true rfl) ?_
  intro p e s m below meth c A ls I hl
  have I0 := I
  obtain ⟨hx, hb, hr, hml, hown, hts, hlocks, hnm, hA, hK, hP, hD, hS⟩ := I
  have hown : s.vm.findClass RJ6 = some m.cls := hown
  have hl : lv_has ls 1 [(0, .int (nI t))] := hl
  obtain ⟨x1, x2, x3, x4, x5, e1, e2, e3, e4, e5, e6, l1, l2, l3, l4, l5, l6⟩ := bc_all ht
  refine lv_iload_n hx hb dJ6_bitCount_0f7a4_0 rfl (lv_at hl 0 rfl) ?_
  refine lv_iload_n hx hb dJ6_bitCount_0f7a4_1 rfl (lv_at hl 0 rfl) ?_
  refine lv_iconst (v := 1) hx hb dJ6_bitCount_0f7a4_2 (by decide) ?_
  refine lv_iushr hx hb dJ6_bitCount_0f7a4_3 rfl ?_
  refine lv_ldcw hx hb hown (hts (.constant RJ6 265 (1431655765)) (by decide +kernel)) dJ6_bitCount_0f7a4_4 ?_
  refine lv_iand hx hb dJ6_bitCount_0f7a4_7 ?_
  refine lv_isub hx hb dJ6_bitCount_0f7a4_8 ?_
  refine lv_istore_n (lv' := [(0, .int _)]) hx hb dJ6_bitCount_0f7a4_9 rfl hl (by decide) rfl (fun ls hl => ?_)
  rw [bw_1 (by omega) e1] at hl
  refine lv_iload_n hx hb dJ6_bitCount_0f7a4_10 rfl (lv_at hl 0 rfl) ?_
  refine lv_ldcw hx hb hown (hts (.constant RJ6 266 (858993459)) (by decide +kernel)) dJ6_bitCount_0f7a4_11 ?_
  refine lv_iand hx hb dJ6_bitCount_0f7a4_14 ?_
  refine lv_iload_n hx hb dJ6_bitCount_0f7a4_15 rfl (lv_at hl 0 rfl) ?_
  refine lv_iconst (v := 2) hx hb dJ6_bitCount_0f7a4_16 (by decide) ?_
  refine lv_iushr hx hb dJ6_bitCount_0f7a4_17 rfl ?_
  refine lv_ldcw hx hb hown (hts (.constant RJ6 266 (858993459)) (by decide +kernel)) dJ6_bitCount_0f7a4_18 ?_
  refine lv_iand hx hb dJ6_bitCount_0f7a4_21 ?_
  refine lv_iadd hx hb dJ6_bitCount_0f7a4_22 ?_
  refine lv_istore_n (lv' := [(0, .int _)]) hx hb dJ6_bitCount_0f7a4_23 rfl hl (by decide) rfl (fun ls hl => ?_)
  rw [bw_2 l1 e2] at hl
  refine lv_iload_n hx hb dJ6_bitCount_0f7a4_24 rfl (lv_at hl 0 rfl) ?_
  refine lv_iload_n hx hb dJ6_bitCount_0f7a4_25 rfl (lv_at hl 0 rfl) ?_
  refine lv_iconst (v := 4) hx hb dJ6_bitCount_0f7a4_26 (by decide) ?_
  refine lv_iushr hx hb dJ6_bitCount_0f7a4_27 rfl ?_
  refine lv_iadd hx hb dJ6_bitCount_0f7a4_28 ?_
  refine lv_ldcw hx hb hown (hts (.constant RJ6 267 (252645135)) (by decide +kernel)) dJ6_bitCount_0f7a4_29 ?_
  refine lv_iand hx hb dJ6_bitCount_0f7a4_32 ?_
  refine lv_istore_n (lv' := [(0, .int _)]) hx hb dJ6_bitCount_0f7a4_33 rfl hl (by decide) rfl (fun ls hl => ?_)
  rw [bw_3 l2 e3] at hl
  refine lv_iload_n hx hb dJ6_bitCount_0f7a4_34 rfl (lv_at hl 0 rfl) ?_
  refine lv_iload_n hx hb dJ6_bitCount_0f7a4_35 rfl (lv_at hl 0 rfl) ?_
  refine lv_bipush (v := 8) hx hb dJ6_bitCount_0f7a4_36 (by decide) ?_
  refine lv_iushr hx hb dJ6_bitCount_0f7a4_38 rfl ?_
  refine lv_iadd hx hb dJ6_bitCount_0f7a4_39 ?_
  refine lv_istore_n (lv' := [(0, .int _)]) hx hb dJ6_bitCount_0f7a4_40 rfl hl (by decide) rfl (fun ls hl => ?_)
  rw [bw_4 l3 e4] at hl
  refine lv_iload_n hx hb dJ6_bitCount_0f7a4_41 rfl (lv_at hl 0 rfl) ?_
  refine lv_iload_n hx hb dJ6_bitCount_0f7a4_42 rfl (lv_at hl 0 rfl) ?_
  refine lv_bipush (v := 16) hx hb dJ6_bitCount_0f7a4_43 (by decide) ?_
  refine lv_iushr hx hb dJ6_bitCount_0f7a4_45 rfl ?_
  refine lv_iadd hx hb dJ6_bitCount_0f7a4_46 ?_
  refine lv_istore_n (lv' := [(0, .int _)]) hx hb dJ6_bitCount_0f7a4_47 rfl hl (by decide) rfl (fun ls hl => ?_)
  rw [bw_5 l4 e5] at hl
  refine lv_iload_n hx hb dJ6_bitCount_0f7a4_48 rfl (lv_at hl 0 rfl) ?_
  refine lv_bipush (v := 63) hx hb dJ6_bitCount_0f7a4_49 (by decide) ?_
  refine lv_iand hx hb dJ6_bitCount_0f7a4_51 ?_
  exact g_iret hx hb hr hlocks (Nat.le_of_ble_eq_true rfl) (Nat.le_of_ble_eq_true rfl) hK hP hD hS dJ6_bitCount_0f7a4_52 (⟨rfl, by rw [bw_6, e6]⟩)
end
section
/-! THE HALL at large: a: addresses (a 0: the four first cells, a 1 rows, a 2 owners, a 3 parties, a 4 numbers) -/
def hW (K : gCl) (a : Nat → Nat → Nat) (z : Nat → Nat) (sd ho bk : Nat → Int32) (ow : Nat → Nat → Int32) (pl pn pm : Nat → Int32) (nm : Nat → Nat → Int32) (cn : Nat → Int32) (co : Nat) (qu : Nat → Nat) (B wt mh fl : Int32) : va_W :=
  gsW K (a 0 0) (a 0 1) (a 0 2) (a 0 3) (a 1) (a 2) (a 3) (a 4) (fun i => (nI (z i), sd i, ho i, bk i)) ow (fun j => (pl j, pn j, pm j)) nm cn co qu B wt mh fl
theorem va_up_id {α : Type} (f : Nat → α) (k : Nat) : va_up f k (f k) = f := by
  funext j
  by_cases h : j = k
  · subst h; simp [va_up]
  · simp [va_up, h]
theorem va_up_uu {α : Type} (f : Nat → α) (k : Nat) (v w : α) : va_up (va_up f k v) k w = va_up f k w := by
  funext j
  by_cases h : j = k
  · subst h; simp [va_up]
  · simp [va_up, h]
section HW
variable {K : gCl} {a : Nat → Nat → Nat} {z : Nat → Nat} {sd ho bk : Nat → Int32} {ow : Nat → Nat → Int32} {pl pn pm : Nat → Int32} {nm : Nat → Nat → Int32} {cn : Nat → Int32} {co : Nat} {qu : Nat → Nat} {B wt mh fl : Int32}
theorem hW_row {j : Nat} (hj : j < 10) : (hW K a z sd ho bk ow pl pn pm nm cn co qu B wt mh fl)[2 * j + 4]? = some (a 1 j, gRow (a 2 j) (nI (z j)) (sd j) (ho j) (bk j)) := gsW_row hj
theorem hW_own {j : Nat} (hj : j < 10) : (hW K a z sd ho bk ow pl pn pm nm cn co qu B wt mh fl)[2 * j + 1 + 4]? = some (a 2 j, gArr K.1 20 (ow j)) := gsW_own hj
theorem hW_par {j : Nat} (hj : j < 9) : (hW K a z sd ho bk ow pl pn pm nm cn co qu B wt mh fl)[2 * j + 20 + 4]? = some (a 3 j, gPar (a 4 j) (pl j) (pn j) (pm j)) := gsW_par hj
theorem hW_num {j : Nat} (hj : j < 9) : (hW K a z sd ho bk ow pl pn pm nm cn co qu B wt mh fl)[2 * j + 1 + 20 + 4]? = some (a 4 j, gArr K.1 6 (nm j)) := gsW_num hj
theorem g_set4 {x0 x1 x2 x3 y : Nat × va_E} {t : va_W} {n : Nat} : (x0 :: x1 :: x2 :: x3 :: t).set (n + 4) y = x0 :: x1 :: x2 :: x3 :: t.set n y := rfl
theorem hW_setRow {i z' : Nat} {s' h' b' : Int32} (hi : i < 10) : (hW K a z sd ho bk ow pl pn pm nm cn co qu B wt mh fl).set (2 * i + 4) (a 1 i, gRow (a 2 i) (nI z') s' h' b') = hW K a (va_up z i z') (va_up sd i s') (va_up ho i h') (va_up bk i b') ow pl pn pm nm cn co qu B wt mh fl := by
  unfold hW gsW
  rw [g_set4, g2_set0 hi]
  congr 5
  apply congrArg (fun f => g2 10 f _)
  funext k
  by_cases h : k = i
  · subst h; simp [va_up]
  · simp [va_up, h]
theorem hW_setHo {i : Nat} {h' : Int32} (hi : i < 10) : (hW K a z sd ho bk ow pl pn pm nm cn co qu B wt mh fl).set (2 * i + 4) (a 1 i, gRow (a 2 i) (nI (z i)) (sd i) h' (bk i)) = hW K a z sd (va_up ho i h') bk ow pl pn pm nm cn co qu B wt mh fl := by
  rw [hW_setRow hi, va_up_id, va_up_id, va_up_id]
theorem hW_setBk {i : Nat} {h' : Int32} (hi : i < 10) : (hW K a z sd ho bk ow pl pn pm nm cn co qu B wt mh fl).set (2 * i + 4) (a 1 i, gRow (a 2 i) (nI (z i)) (sd i) (ho i) h') = hW K a z sd ho (va_up bk i h') ow pl pn pm nm cn co qu B wt mh fl := by
  rw [hW_setRow hi, va_up_id, va_up_id, va_up_id]
theorem hW_setOwn {i : Nat} {f : Nat → Int32} (hi : i < 10) : (hW K a z sd ho bk ow pl pn pm nm cn co qu B wt mh fl).set (2 * i + 1 + 4) (a 2 i, gArr K.1 20 f) = hW K a z sd ho bk (va_up ow i f) pl pn pm nm cn co qu B wt mh fl := by
  unfold hW gsW
  rw [g_set4, g2_set1 hi]
  congr 5
  apply congrArg (fun f => g2 10 _ f)
  funext k
  by_cases h : k = i
  · subst h; simp [va_up]
  · simp [va_up, h]
theorem g_skip4 {x0 x1 x2 x3 y : Nat × va_E} {f g : Nat → Nat × va_E} {t : va_W} {n : Nat} : (x0 :: x1 :: x2 :: x3 :: (g2 10 f g ++ t)).set (n + 20 + 4) y = x0 :: x1 :: x2 :: x3 :: (g2 10 f g ++ t.set n y) := by
  rw [g_set4, g2_setR (k := n) (by omega)]
theorem g2_set0' {n : Nat} {f g : Nat → Nat × va_E} {i : Nat} {x : Nat × va_E} (h : i < n) : (g2 n f g).set (2 * i) x = g2 n (va_up f i x) g := by
  have := g2_set0 (r := []) (f := f) (g := g) (x := x) h
  simpa using this
theorem g2_set1' {n : Nat} {f g : Nat → Nat × va_E} {i : Nat} {x : Nat × va_E} (h : i < n) : (g2 n f g).set (2 * i + 1) x = g2 n f (va_up g i x) := by
  have := g2_set1 (r := []) (f := f) (g := g) (x := x) h
  simpa using this
theorem hW_setPar {j : Nat} {l' n' m' : Int32} (hj : j < 9) : (hW K a z sd ho bk ow pl pn pm nm cn co qu B wt mh fl).set (2 * j + 20 + 4) (a 3 j, gPar (a 4 j) l' n' m') = hW K a z sd ho bk ow (va_up pl j l') (va_up pn j n') (va_up pm j m') nm cn co qu B wt mh fl := by
  unfold hW gsW
  rw [g_skip4, g2_set0' hj]
  congr 5
  apply congrArg (fun f => g2 9 f _)
  funext k
  by_cases h : k = j
  · subst h; simp [va_up]
  · simp [va_up, h]
theorem hW_setNum {j : Nat} {f : Nat → Int32} (hj : j < 9) : (hW K a z sd ho bk ow pl pn pm nm cn co qu B wt mh fl).set (2 * j + 1 + 20 + 4) (a 4 j, gArr K.1 6 f) = hW K a z sd ho bk ow pl pn pm (va_up nm j f) cn co qu B wt mh fl := by
  unfold hW gsW
  rw [g_skip4, g2_set1' hj]
  congr 5
  apply congrArg (fun f => g2 9 _ f)
  funext k
  by_cases h : k = j
  · subst h; simp [va_up]
  · simp [va_up, h]
end HW
/-- by what a party fails that gets to the rows rs of its list -/
def obsL (z : Nat → Nat) : List Nat → Int32
  | [] => -4
  | r :: _ => if r < 10 then (if z r = 0 then -5 else 0) else -6
/-- a party of n, with mode mo, goes on with the rows rs, w seats being wanted still, at place p: by what it fails (0: it doesn't), the owners, the most held -/
def goA (z : Nat → Nat) (sd : Nat → Int32) (b : Int32) (n : Nat) (mo : Int32) : List Nat → Nat → Nat → (Nat → Nat → Int32) → Nat → Int32 × (Nat → Nat → Int32) × Nat
  | [], w, _, ow, mh => (if w = 0 then 0 else if mo = 1 ∧ w < n then 0 else -4, ow, mh)
  | r :: rs, w, p, ow, mh => if w = 0 then (0, ow, mh) else if obsL z (r :: rs) = 0 then goA z sd b n mo rs (w - tkC (ow r) (z r) (sd r) w) (p + 1) (va_up ow r (tkF b (ow r) (z r) (sd r) w)) (max mh (p + 1)) else (if mo = 1 ∧ w < n then 0 else obsL z (r :: rs), ow, mh)
theorem goA_stop {z : Nat → Nat} {sd : Nat → Int32} {b : Int32} {n : Nat} {mo : Int32} {rs : List Nat} {w p : Nat} {ow : Nat → Nat → Int32} {mh : Nat} (hw : w ≠ 0) (ho : obsL z rs ≠ 0) : goA z sd b n mo rs w p ow mh = (if mo = 1 ∧ w < n then 0 else obsL z rs, ow, mh) := by
  cases rs with
  | nil => simp [goA, hw, obsL]
  | cons r rs => simp only [goA, if_neg hw, if_neg ho]
theorem goA_done {z : Nat → Nat} {sd : Nat → Int32} {b : Int32} {n : Nat} {mo : Int32} {rs : List Nat} {p : Nat} {ow : Nat → Nat → Int32} {mh : Nat} : goA z sd b n mo rs 0 p ow mh = (0, ow, mh) := by
  cases rs <;> simp [goA]
theorem obsL_cons {z : Nat → Nat} {r : Nat} {rs : List Nat} : obsL z (r :: rs) = if r < 10 then (if z r = 0 then -5 else 0) else -6 := rfl
theorem obs_ne {z : Nat → Nat} {rs : List Nat} (h : obsL z rs = 0) : ∃ r rs', rs = r :: rs' ∧ r < 10 ∧ z r ≠ 0 := by
  cases rs with
  | nil => exact absurd (show (-4 : Int32) = 0 from h) (by decide)
  | cons r rs =>
    refine ⟨r, rs, rfl, ?_⟩
    rw [obsL_cons] at h
    split at h
    · rename_i h1
      split at h
      · exact absurd h (by decide)
      · rename_i h2
        exact ⟨h1, h2⟩
    · exact absurd h (by decide)
/-- giving back restores the row -/
theorem gb_back {b : Int32} (hb : b ≠ -8) {f : Nat → Int32} {z : Nat} {sd : Int32} {w : Nat} : gbF (mkT f (z - tkS f z sd w) (tkS f z sd w) (tkN f z sd w) 0) (tkF b f z sd w) z = f := by
  funext j
  have hs := tkS_le f z sd w
  have hbits := mkT_bits hb (z - tkS f z sd w) (tkS f z sd w) (tkN f z sd w) f 0 (Nat.two_pow_pos _) j
  have hat := mkF_at b (z - tkS f z sd w) (tkS f z sd w) (tkN f z sd w) f j
  unfold gbF tkF
  split
  · rename_i h
    rcases hbits.mp h.2 with h1 | ⟨h1, _, _⟩
    · simp at h1
    · exact h1.symm
  · rename_i h
    rcases hat with h1 | ⟨h1, h2, h3, h4⟩
    · exact h1
    · exact absurd ⟨by omega, hbits.mpr (Or.inr ⟨h2, h3, h1⟩)⟩ h
theorem tk_pc {f : Nat → Int32} {z : Nat} {sd : Int32} {w : Nat} (hz : z ≤ 20) : pcN (mkT f (z - tkS f z sd w) (tkS f z sd w) (tkN f z sd w) 0) 20 = tkC f z sd w := by
  have hs := tkS_le f z sd w
  rw [mkT_pc f _ _ _ 0 20 (Nat.two_pow_pos _) (by omega), pcN_0]
  unfold tkC
  omega
theorem tk_lt {f : Nat → Int32} {z : Nat} {sd : Int32} {w : Nat} (hz : z ≤ 20) : mkT f (z - tkS f z sd w) (tkS f z sd w) (tkN f z sd w) 0 < 2 ^ 20 := by
  have hs := tkS_le f z sd w
  have := mkT_lt f (z - tkS f z sd w) (tkS f z sd w) (tkN f z sd w) 0 (Nat.two_pow_pos _)
  rw [show tkS f z sd w + (z - tkS f z sd w) = z by omega] at this
  exact Nat.lt_of_lt_of_le this (Nat.pow_le_pow_right (by decide) hz)
theorem g_max {x y : Nat} (hx : x < 2 ^ 31) (hy : y < 2 ^ 31) : (if nI x < nI y then nI y else nI x) = nI (max x y) := by
  by_cases h : x < y
  · rw [if_pos ((nI_ltI hx hy).mpr h), Nat.max_eq_right (by omega)]
  · rw [if_neg (fun q => h ((nI_ltI hx hy).mp q)), Nat.max_eq_left (by omega)]
/-- a party's numbers are the list L -/
def isL (f : Nat → Int32) (L : List Nat) : Prop := L.length ≤ 6 ∧ (∀ i, i < L.length → f i = nI (L.getD i 0)) ∧ ∀ r ∈ L, r ≤ 11
theorem isL_drop {f : Nat → Int32} {L : List Nat} (h : isL f L) {p r : Nat} {rs : List Nat} (e : L.drop p = r :: rs) : p < L.length ∧ f p = nI r ∧ L.drop (p + 1) = rs ∧ r ≤ 11 := by
  have hp : p < L.length := by
    rcases Nat.lt_or_ge p L.length with q | q
    · exact q
    · rw [List.drop_eq_nil_of_le q] at e; cases e
  have e2 : L.drop p = L[p] :: L.drop (p + 1) := List.drop_eq_getElem_cons hp
  rw [e2] at e
  injection e with e3 e4
  refine ⟨hp, ?_, e4, ?_⟩
  · rw [h.2.1 p hp, show L.getD p 0 = L[p] by simp [List.getD_eq_getElem?_getD, hp], e3]
  · rw [← e3]; exact h.2.2 _ (List.getElem_mem hp)
theorem isL_end {L : List Nat} {p : Nat} (e : L.drop p = []) : L.length ≤ p := by
  rcases Nat.lt_or_ge p L.length with q | q
  · rw [List.drop_eq_getElem_cons q] at e; cases e
  · exact q
set_option maxHeartbeats 4000000 in
set_option maxRecDepth 100000 in
/-- obstacleAt -/
theorem c_obstacleAt (l : Launch) (D : va_G) (K : gCl) (a : Nat → Nat → Nat) (z : Nat → Nat) (sd ho bk : Nat → Int32) (ow : Nat → Nat → Int32) (pl pn pm : Nat → Int32) (nm : Nat → Nat → Int32) (cn : Nat → Int32) (co : Nat) (qu : Nat → Nat) (B wt mh : Nat) (fl : Int32) (j p0 : Nat) (L : List Nat) (sz : Nat) (hj : j < 9) (hp6 : p0 ≤ 6) (hz : ∀ i, i < 10 → z i ≤ 20) (hlen : pl j = nI L.length) (hL : isL (nm j) L) : gMi l yX2_obstacleAt wsX2_obstacleAt ({ frames := 1, cells := 0, slots := 0, locals := 40 } : Room) D vwCl (gT K) [.ref (a 0 0), .ref (a 3 j), .int (nI p0)] (hW K a z sd ho bk ow pl pn pm nm cn co qu (nI B) (nI wt) (nI mh) fl) sz (fun r1 w1 => w1 = hW K a z sd ho bk ow pl pn pm nm cn co qu (nI B) (nI wt) (nI mh) fl ∧ r1 = obsL z (L.drop p0)) 0 0 := by
  refine g_of (cc := cX2_obstacleAt) (maxL := 4) (ret := (some .int)) (Qc := fun A => va_Qi (fun r1 w1 => w1 = hW K a z sd ho bk ow pl pn pm nm cn co qu (nI B) (nI wt) (nI mh) fl ∧ r1 = obsL z (L.drop p0)) (gB D vwCl (gT K) A) A) (by decide) rfl (Nat.le_of_ble_eq_true rfl) ?_
  intro p e s m below meth c A ls I hl
  have I0 := I
  obtain ⟨hx, hb, hr, hml, hown, hts, hlocks, hnm, hA, hK, hP, hD, hS⟩ := I
  have hown : s.vm.findClass RX2 = some m.cls := hown
  have hl : lv_has ls 4 [(0, .ref (a 0 0)), (1, .ref (a 3 j)), (2, .int (nI p0))] := hl
  have hi_X2 : ∀ w ∈ u_ws RX2 TX2 8, w ∈ wsX2_obstacleAt := by decide +kernel
  have hi_X1 : ∀ w ∈ u_ws RX1 TX1 5, w ∈ wsX2_obstacleAt := by decide +kernel
  have hi_X0 : ∀ w ∈ u_ws RX0 TX0 4, w ∈ wsX2_obstacleAt := by decide +kernel
  have hL6 := hL.1
  refine lv_iload_n hx hb dX2_obstacleAt_0 rfl (lv_at hl 2 rfl) ?_
  refine lv_aload_n hx hb dX2_obstacleAt_1 rfl (lv_at hl 1 rfl) ?_
  refine va_get (C := RX0) (T := TX0) (N := 4) (ci := 0) hx hb hts hi_X0 hown hK hP (2 * j + 20 + 4) (hW_par hj) rfl 1 (by decide) (hts (.fieldLink RX2 59 "GroupSeats$Party" "listed" "I") (by decide +kernel)) (fun _ h9 => h9) rfl dX2_obstacleAt_2 ?_
  refine lv_icmp_lt (tgt := 11) hx hb dX2_obstacleAt_5 (by decide) (fun c5 => ?_) (fun c5 => ?_)
  · obtain ⟨r, rs, ers⟩ : ∃ r rs, L.drop p0 = r :: rs := by
      cases e : L.drop p0 with
      | nil => have := isL_end e; rw [hlen] at c5; exact absurd ((nI_ltI (by omega) (by omega)).mp c5) (by omega)
      | cons r rs => exact ⟨r, rs, rfl⟩
    obtain ⟨hp1, hp2, hp3, hp4⟩ := isL_drop hL ers
    refine lv_aload_n hx hb dX2_obstacleAt_11 rfl (lv_at hl 1 rfl) ?_
    refine va_get (C := RX0) (T := TX0) (N := 4) (ci := 0) hx hb hts hi_X0 hown hK hP (2 * j + 20 + 4) (hW_par hj) rfl 0 (by decide) (hts (.fieldLink RX2 62 "GroupSeats$Party" "numbers" "[I") (by decide +kernel)) (fun _ h9 => h9) rfl dX2_obstacleAt_12 ?_
    refine lv_iload_n hx hb dX2_obstacleAt_15 rfl (lv_at hl 2 rfl) ?_
    refine va_iald hx hb hK hP (2 * j + 1 + 20 + 4) 0 (hW_num hj) rfl (vp_in_nI (show p0 < 6 by omega) (by decide)) dX2_obstacleAt_16 ?_
    rw [nI_clamp (by omega), hp2]
    refine lv_istore_n (lv' := [(3, .int _), (0, .ref _), (1, .ref _), (2, .int _)]) hx hb dX2_obstacleAt_17 rfl hl (by decide) rfl (fun ls hl => ?_)
    refine lv_iload_n hx hb dX2_obstacleAt_18 rfl (lv_at hl 0 rfl) ?_
    refine g_calli (va_runS (As := [.int _]) (rest := []) ⟨hx, hb, hml, hown, hts⟩ (c_isRow l D K _ _ _) (va_cwS 1 hts gX2_obstacleAt_X2_isRow rfl rfl rfl (by decide +kernel) ⟨(Nat.le_of_ble_eq_true rfl), (Nat.le_of_ble_eq_true rfl)⟩) (g_preS hK hP hD) rfl rfl hl.1 rfl (lv_room (Nat.le_of_ble_eq_true rfl)) dX2_obstacleAt_19 ⟨Nat.zero_le _, Nat.zero_le _⟩) hD hS hA (fun r19 wv H locs hw hP hD hS => ?_)
    obtain ⟨ew, e19⟩ := hw
    rw [ew] at hP hD
    refine lv_if_ne (tgt := 28) hx hb dX2_obstacleAt_22 (by decide) (fun c22 => ?_) (fun c22 => ?_)
    · have hr10 : r < 10 := (nI_ltI (b := 10) (by omega) (by decide)).mp (Classical.not_not.mp (fun q => c22 (e19.mpr (fun h => q h.2))))
      refine lv_aload_n hx hb dX2_obstacleAt_28 rfl (lv_at hl 1 rfl) ?_
      refine va_get (C := RX2) (T := TX2) (N := 8) (ci := 2) hx hb hts hi_X2 hown hK hP (0) (rfl) rfl 0 (by decide) (hts (.fieldLink RX2 11 "GroupSeats" "rows" "[LGroupSeats$Row;") (by decide +kernel)) (fun _ h9 => h9) rfl dX2_obstacleAt_29 ?_
      refine lv_iload_n hx hb dX2_obstacleAt_32 rfl (lv_at hl 0 rfl) ?_
      refine g_aldq hx hb hK hP (1) 2 (rfl) rfl (vp_in_nI hr10 (by decide)) (gRf_at hr10 (by decide)) dX2_obstacleAt_33 ?_
      refine g_calli (va_runV (As := []) (rest := []) ⟨hx, hb, hml, hown, hts⟩ (c_isOpen l D K _ (a 1 r) (a 2 r) (2 * r + 4) (nI (z r)) (sd r) (ho r) (bk r) _ (hW_row hr10)) (cwV 0 hts gX2_obstacleAt_X1_isOpen rfl rfl rfl (by decide +kernel) ⟨(Nat.le_of_ble_eq_true rfl), (Nat.le_of_ble_eq_true rfl)⟩) (g_preV hK hP hD (ci := 1) (q0 := 2 * r + 4) rfl (hW_row hr10)) rfl rfl hl.1 rfl (lv_room (Nat.le_of_ble_eq_true rfl)) dX2_obstacleAt_34 ⟨Nat.zero_le _, Nat.zero_le _⟩) hD hS hA (fun r34 wv H locs hw hP hD hS => ?_)
      obtain ⟨ew, e34⟩ := hw
      rw [ew] at hP hD
      refine lv_if_eq (tgt := 44) hx hb dX2_obstacleAt_37 (by decide) (fun c37 => ?_) (fun c37 => ?_)
      · refine lv_bipush (v := -5) hx hb dX2_obstacleAt_44 (by decide) ?_
        exact g_iret hx hb hr hlocks (Nat.le_of_ble_eq_true rfl) (Nat.le_of_ble_eq_true rfl) hK hP hD hS dX2_obstacleAt_46 (⟨rfl, by rw [ers]; rw [obsL_cons, if_pos hr10, if_pos (Classical.not_not.mp (fun q => e34.mp c37 (by rw [show (0 : Int32) = nI 0 from rfl]; exact nI_lt (by omega) (by have := hz r hr10; omega))))]⟩)
      · refine lv_iconst (v := 0) hx hb dX2_obstacleAt_40 (by decide) ?_
        refine lv_goto (tgt := 46) hx hb dX2_obstacleAt_41 (by decide) ?_
        exact g_iret hx hb hr hlocks (Nat.le_of_ble_eq_true rfl) (Nat.le_of_ble_eq_true rfl) hK hP hD hS dX2_obstacleAt_46 (⟨rfl, by rw [ers]; rw [obsL_cons, if_pos hr10, if_neg (fun q => c37 (e34.mpr (by rw [q]; decide)))]⟩)
    · refine lv_bipush (v := -6) hx hb dX2_obstacleAt_25 (by decide) ?_
      exact g_iret hx hb hr hlocks (Nat.le_of_ble_eq_true rfl) (Nat.le_of_ble_eq_true rfl) hK hP hD hS dX2_obstacleAt_27 (⟨rfl, by rw [ers]; rw [obsL_cons, if_neg]; intro q; exact e19.mp c22 ⟨nI_pos' (by omega), nI_lt (b := 10) q (by decide)⟩⟩)
  · refine lv_bipush (v := -4) hx hb dX2_obstacleAt_8 (by decide) ?_
    exact g_iret hx hb hr hlocks (Nat.le_of_ble_eq_true rfl) (Nat.le_of_ble_eq_true rfl) hK hP hD hS dX2_obstacleAt_10 (⟨rfl, by rw [List.drop_eq_nil_of_le (by rw [hlen] at c5; exact Nat.le_of_not_lt (fun q => c5 (nI_lt q (by omega))))]; rfl⟩)
end
section
/-- behind a walk through the rows: its answer, and the hall -/
def gPo (K : gCl) (a : Nat → Nat → Nat) (z : Nat → Nat) (sd : Nat → Int32) (pl pn pm : Nat → Int32) (nm : Nat → Nat → Int32) (cn : Nat → Int32) (co : Nat) (qu : Nat → Nat) (B wt : Nat) (fl : Int32) (ow : Nat → Nat → Int32) (G : Int32 × (Nat → Nat → Int32) × Nat) : Int32 → va_W → Prop := fun r1 w1 => r1 = G.1 ∧ ∃ ho' bk' : Nat → Int32, w1 = hW K a z sd ho' bk' (if G.1 = 0 then G.2.1 else ow) pl pn pm nm cn co qu (nI B) (nI wt) (nI G.2.2) fl
theorem gPo_same {K : gCl} {a : Nat → Nat → Nat} {z : Nat → Nat} {sd ho bk : Nat → Int32} {pl pn pm : Nat → Int32} {nm : Nat → Nat → Int32} {cn : Nat → Int32} {co : Nat} {qu : Nat → Nat} {B wt : Nat} {fl : Int32} {ow : Nat → Nat → Int32} {c : Int32} {mh : Nat} : gPo K a z sd pl pn pm nm cn co qu B wt fl ow (c, ow, mh) c (hW K a z sd ho bk ow pl pn pm nm cn co qu (nI B) (nI wt) (nI mh) fl) := ⟨rfl, ho, bk, by simp⟩
def rmGo (d : Nat) : Room := { frames := d + 3, cells := 0, slots := 0, locals := 100 + 30 * d }
theorem goA_step {z : Nat → Nat} {sd : Nat → Int32} {b : Int32} {n : Nat} {mo : Int32} {r : Nat} {rs : List Nat} {w p : Nat} {ow : Nat → Nat → Int32} {mh : Nat} (hw : w ≠ 0) (ho : obsL z (r :: rs) = 0) : goA z sd b n mo (r :: rs) w p ow mh = goA z sd b n mo rs (w - tkC (ow r) (z r) (sd r) w) (p + 1) (va_up ow r (tkF b (ow r) (z r) (sd r) w)) (max mh (p + 1)) := by
  simp only [goA, if_neg hw, if_pos ho]
set_option maxHeartbeats 4000000 in
set_option maxRecDepth 100000 in
/-- goOn: by induction on the rows that are left -/
theorem c_goOn (l : Launch) (D : va_G) (K : gCl) (a : Nat → Nat → Nat) (z : Nat → Nat) (sd : Nat → Int32) (pl pn pm : Nat → Int32) (nm : Nat → Nat → Int32) (cn : Nat → Int32) (co : Nat) (qu : Nat → Nat) (B wt : Nat) (fl : Int32) (j n : Nat) (mo : Int32) (L : List Nat) (hj : j < 9) (hz : ∀ i, i < 10 → z i ≤ 20) (hlen : pl j = nI L.length) (hL : isL (nm j) L) (hn : pn j = nI n) (hn60 : n ≤ 60) (hmo : pm j = mo) (hB : B < 100) :
    ∀ (rs : List Nat) (p0 w mh : Nat) (ho bk : Nat → Int32) (ow : Nat → Nat → Int32) (sz : Nat), L.drop p0 = rs → p0 ≤ 6 → w ≤ 60 → mh ≤ 100 →
    gMi l yX2_goOn wsX2_goOn (rmGo rs.length) D vwCl (gT K) [.ref (a 0 0), .ref (a 3 j), .int (nI p0), .int (nI w)] (hW K a z sd ho bk ow pl pn pm nm cn co qu (nI B) (nI wt) (nI mh) fl) sz (gPo K a z sd pl pn pm nm cn co qu B wt fl ow (goA z sd (nI B) n mo rs w p0 ow mh)) 0 0 := by
  have hL6 := hL.1
  have hb8 : nI B ≠ -8 := fun h => by
    have h2 := congrArg Int32.toInt h
    rw [nI_toInt (by omega)] at h2
    exact absurd h2 (by rw [show (-8 : Int32).toInt = -8 from rfl]; omega)
  intro rs
  induction rs with
  | nil =>
    intro p0 w mh ho bk ow sz e0 hp6 hw60 hmh
    refine g_of (cc := cX2_goOn) (maxL := 8) (ret := some .int) (Qc := fun A => va_Qi (gPo K a z sd pl pn pm nm cn co qu B wt fl ow (goA z sd (nI B) n mo [] w p0 ow mh)) (gB D vwCl (gT K) A) A) (by decide) rfl (Nat.le_of_ble_eq_true rfl) ?_
    intro p e s m below meth c A ls I hl
    have I0 := I
    obtain ⟨hx, hb, hr, hml, hown, hts, hlocks, hnm, hA, hK, hP, hD, hS⟩ := I
    have hown : s.vm.findClass RX2 = some m.cls := hown
    have hl : lv_has ls 8 [(0, .ref (a 0 0)), (1, .ref (a 3 j)), (2, .int (nI p0)), (3, .int (nI w))] := hl
    have hi_X2 : ∀ w ∈ u_ws RX2 TX2 8, w ∈ wsX2_goOn := by decide +kernel
    have hi_X1 : ∀ w ∈ u_ws RX1 TX1 5, w ∈ wsX2_goOn := by decide +kernel
    have hi_X0 : ∀ w ∈ u_ws RX0 TX0 4, w ∈ wsX2_goOn := by decide +kernel
    refine lv_iload_n hx hb dX2_goOn_0 rfl (lv_at hl 3 rfl) ?_
    refine lv_if_gt (tgt := 6) hx hb dX2_goOn_1 (by decide) (fun c1 => ?_) (fun c1 => ?_)
    · have hw0 : w ≠ 0 := fun q => absurd c1 (by rw [q]; decide)
      refine lv_aload_n hx hb dX2_goOn_6 rfl (lv_at hl 0 rfl) ?_
      refine lv_aload_n hx hb dX2_goOn_7 rfl (lv_at hl 1 rfl) ?_
      refine lv_iload_n hx hb dX2_goOn_8 rfl (lv_at hl 2 rfl) ?_
      refine g_calli (va_runV (As := [.ref _, .int _]) (rest := []) ⟨hx, hb, hml, hown, hts⟩ (c_obstacleAt l D K a z sd ho bk ow pl pn pm nm cn co qu B wt mh fl j p0 L _ hj hp6 hz hlen hL) (cwV 2 hts gX2_goOn_X2_obstacleAt rfl rfl rfl (by decide +kernel) ⟨by show 1 + 1 ≤ 0 + 3; omega, by show 8 + (4 + 11) + 40 ≤ 100 + 30 * 0; omega⟩) (g_preV hK hP hD (ci := 2) (q0 := 0) rfl (rfl)) rfl rfl hl.1 rfl (lv_room (Nat.le_of_ble_eq_true rfl)) dX2_goOn_9 ⟨Nat.zero_le _, Nat.zero_le _⟩) hD hS hA (fun r9 wv H locs hw hP hD hS => ?_)
      obtain ⟨ew, er⟩ := hw
      rw [ew] at hP hD
      rw [e0] at er
      subst er
      refine lv_istore (lv' := [(4, .int _), (0, .ref _), (1, .ref _), (2, .int _), (3, .int _)]) hx hb dX2_goOn_12 hl (by decide) rfl (fun ls hl => ?_)
      refine lv_iload hx hb dX2_goOn_14 (lv_at hl 0 rfl) ?_
      refine lv_if_eq (tgt := 54) hx hb dX2_goOn_16 (by decide) (fun c16 => ?_) (fun c16 => ?_)
      · exact absurd (show (-4 : Int32) = 0 from c16) (by decide)
      · refine lv_aload_n hx hb dX2_goOn_19 rfl (lv_at hl 2 rfl) ?_
        refine va_get (C := RX0) (T := TX0) (N := 4) (ci := 0) hx hb hts hi_X0 hown hK hP (2 * j + 20 + 4) (hW_par hj) rfl 3 (by decide) (hts (.fieldLink RX2 70 "GroupSeats$Party" "mode" "I") (by decide +kernel)) (fun _ h9 => h9) rfl dX2_goOn_20 ?_
        refine lv_iconst (v := 1) hx hb dX2_goOn_23 (by decide) ?_
        refine lv_icmp_ne (tgt := 39) hx hb dX2_goOn_24 (by decide) (fun c24 => ?_) (fun c24 => ?_)
        · refine lv_iconst (v := 0) hx hb dX2_goOn_39 (by decide) ?_
          refine lv_istore (lv' := [(5, .int _), (4, .int _), (0, .ref _), (1, .ref _), (2, .int _), (3, .int _)]) hx hb dX2_goOn_40 hl (by decide) rfl (fun ls hl => ?_)
          refine lv_iload hx hb dX2_goOn_42 (lv_at hl 0 rfl) ?_
          refine lv_if_eq (tgt := 51) hx hb dX2_goOn_44 (by decide) (fun c44 => ?_) (fun c44 => ?_)
          · refine lv_iload hx hb dX2_goOn_51 (lv_at hl 1 rfl) ?_
            exact g_iret hx hb hr hlocks (Nat.le_of_ble_eq_true rfl) (Nat.le_of_ble_eq_true rfl) hK hP hD hS dX2_goOn_53 (by rw [goA_stop hw0 c16]; rw [if_neg (fun h => c24 (hmo.trans h.1))]; exact gPo_same)
          · exact absurd rfl c44
        · refine lv_iload_n hx hb dX2_goOn_27 rfl (lv_at hl 4 rfl) ?_
          refine lv_aload_n hx hb dX2_goOn_28 rfl (lv_at hl 2 rfl) ?_
          refine va_get (C := RX0) (T := TX0) (N := 4) (ci := 0) hx hb hts hi_X0 hown hK hP (2 * j + 20 + 4) (hW_par hj) rfl 2 (by decide) (hts (.fieldLink RX2 69 "GroupSeats$Party" "size" "I") (by decide +kernel)) (fun _ h9 => h9) rfl dX2_goOn_29 ?_
          refine lv_icmp_ge (tgt := 39) hx hb dX2_goOn_32 (by decide) (fun c32 => ?_) (fun c32 => ?_)
          · refine lv_iconst (v := 0) hx hb dX2_goOn_39 (by decide) ?_
            refine lv_istore (lv' := [(5, .int _), (4, .int _), (0, .ref _), (1, .ref _), (2, .int _), (3, .int _)]) hx hb dX2_goOn_40 hl (by decide) rfl (fun ls hl => ?_)
            refine lv_iload hx hb dX2_goOn_42 (lv_at hl 0 rfl) ?_
            refine lv_if_eq (tgt := 51) hx hb dX2_goOn_44 (by decide) (fun c44 => ?_) (fun c44 => ?_)
            · refine lv_iload hx hb dX2_goOn_51 (lv_at hl 1 rfl) ?_
              exact g_iret hx hb hr hlocks (Nat.le_of_ble_eq_true rfl) (Nat.le_of_ble_eq_true rfl) hK hP hD hS dX2_goOn_53 (by rw [goA_stop hw0 c16]; rw [if_neg (fun h => by rw [hn] at c32; have := (nI_leI (by omega) (by omega)).mp c32; omega)]; exact gPo_same)
            · exact absurd rfl c44
          · refine lv_iconst (v := 1) hx hb dX2_goOn_35 (by decide) ?_
            refine lv_goto (tgt := 40) hx hb dX2_goOn_36 (by decide) ?_
            refine lv_istore (lv' := [(5, .int _), (4, .int _), (0, .ref _), (1, .ref _), (2, .int _), (3, .int _)]) hx hb dX2_goOn_40 hl (by decide) rfl (fun ls hl => ?_)
            refine lv_iload hx hb dX2_goOn_42 (lv_at hl 0 rfl) ?_
            refine lv_if_eq (tgt := 51) hx hb dX2_goOn_44 (by decide) (fun c44 => ?_) (fun c44 => ?_)
            · exact absurd c44 (by decide)
            · refine lv_iconst (v := 0) hx hb dX2_goOn_47 (by decide) ?_
              refine lv_goto (tgt := 53) hx hb dX2_goOn_48 (by decide) ?_
              exact g_iret hx hb hr hlocks (Nat.le_of_ble_eq_true rfl) (Nat.le_of_ble_eq_true rfl) hK hP hD hS dX2_goOn_53 (by rw [goA_stop hw0 c16]; rw [if_pos ⟨hmo.symm.trans c24, Nat.lt_of_not_le (fun q => c32 (by rw [hn]; exact nI_le q (by omega)))⟩]; exact gPo_same)
    · refine lv_iconst (v := 0) hx hb dX2_goOn_4 (by decide) ?_
      exact g_iret hx hb hr hlocks (Nat.le_of_ble_eq_true rfl) (Nat.le_of_ble_eq_true rfl) hK hP hD hS dX2_goOn_5 (by have hw0 : w = 0 := Classical.not_not.mp (fun q => c1 (by rw [show (0 : Int32) = nI 0 from rfl]; exact nI_lt (by omega) (by omega))); subst hw0; rw [goA_done]; exact gPo_same)
  | cons r rs ih =>
    intro p0 w mh ho bk ow sz e0 hp6 hw60 hmh
    refine g_of (cc := cX2_goOn) (maxL := 8) (ret := some .int) (Qc := fun A => va_Qi (gPo K a z sd pl pn pm nm cn co qu B wt fl ow (goA z sd (nI B) n mo (r :: rs) w p0 ow mh)) (gB D vwCl (gT K) A) A) (by decide) rfl (Nat.le_of_ble_eq_true rfl) ?_
    intro p e s m below meth c A ls I hl
    have I0 := I
    obtain ⟨hx, hb, hr, hml, hown, hts, hlocks, hnm, hA, hK, hP, hD, hS⟩ := I
    have hown : s.vm.findClass RX2 = some m.cls := hown
    have hl : lv_has ls 8 [(0, .ref (a 0 0)), (1, .ref (a 3 j)), (2, .int (nI p0)), (3, .int (nI w))] := hl
    have hi_X2 : ∀ w ∈ u_ws RX2 TX2 8, w ∈ wsX2_goOn := by decide +kernel
    have hi_X1 : ∀ w ∈ u_ws RX1 TX1 5, w ∈ wsX2_goOn := by decide +kernel
    have hi_X0 : ∀ w ∈ u_ws RX0 TX0 4, w ∈ wsX2_goOn := by decide +kernel
    refine lv_iload_n hx hb dX2_goOn_0 rfl (lv_at hl 3 rfl) ?_
    refine lv_if_gt (tgt := 6) hx hb dX2_goOn_1 (by decide) (fun c1 => ?_) (fun c1 => ?_)
    · have hw0 : w ≠ 0 := fun q => absurd c1 (by rw [q]; decide)
      refine lv_aload_n hx hb dX2_goOn_6 rfl (lv_at hl 0 rfl) ?_
      refine lv_aload_n hx hb dX2_goOn_7 rfl (lv_at hl 1 rfl) ?_
      refine lv_iload_n hx hb dX2_goOn_8 rfl (lv_at hl 2 rfl) ?_
      refine g_calli (va_runV (As := [.ref _, .int _]) (rest := []) ⟨hx, hb, hml, hown, hts⟩ (c_obstacleAt l D K a z sd ho bk ow pl pn pm nm cn co qu B wt mh fl j p0 L _ hj hp6 hz hlen hL) (cwV 2 hts gX2_goOn_X2_obstacleAt rfl rfl rfl (by decide +kernel) ⟨by show 1 + 1 ≤ rs.length + 1 + 3; omega, by show 8 + (4 + 11) + 40 ≤ 100 + 30 * (rs.length + 1); omega⟩) (g_preV hK hP hD (ci := 2) (q0 := 0) rfl (rfl)) rfl rfl hl.1 rfl (lv_room (Nat.le_of_ble_eq_true rfl)) dX2_goOn_9 ⟨Nat.zero_le _, Nat.zero_le _⟩) hD hS hA (fun r9 wv H locs hw hP hD hS => ?_)
      obtain ⟨ew, er⟩ := hw
      rw [ew] at hP hD
      rw [e0] at er
      subst er
      refine lv_istore (lv' := [(4, .int _), (0, .ref _), (1, .ref _), (2, .int _), (3, .int _)]) hx hb dX2_goOn_12 hl (by decide) rfl (fun ls hl => ?_)
      refine lv_iload hx hb dX2_goOn_14 (lv_at hl 0 rfl) ?_
      refine lv_if_eq (tgt := 54) hx hb dX2_goOn_16 (by decide) (fun c16 => ?_) (fun c16 => ?_)
      · have hr10 : r < 10 := by obtain ⟨r1, rs1, e1, e2, e3⟩ := obs_ne c16; injection e1 with e4 e5; omega
        obtain ⟨hp1, hp2, hp3, hp4⟩ := isL_drop hL e0
        refine lv_aload_n hx hb dX2_goOn_54 rfl (lv_at hl 1 rfl) ?_
        refine va_get (C := RX2) (T := TX2) (N := 8) (ci := 2) hx hb hts hi_X2 hown hK hP (0) (rfl) rfl 0 (by decide) (hts (.fieldLink RX2 11 "GroupSeats" "rows" "[LGroupSeats$Row;") (by decide +kernel)) (fun _ h9 => h9) rfl dX2_goOn_55 ?_
        refine lv_aload_n hx hb dX2_goOn_58 rfl (lv_at hl 2 rfl) ?_
        refine va_get (C := RX0) (T := TX0) (N := 4) (ci := 0) hx hb hts hi_X0 hown hK hP (2 * j + 20 + 4) (hW_par hj) rfl 0 (by decide) (hts (.fieldLink RX2 62 "GroupSeats$Party" "numbers" "[I") (by decide +kernel)) (fun _ h9 => h9) rfl dX2_goOn_59 ?_
        refine lv_iload_n hx hb dX2_goOn_62 rfl (lv_at hl 3 rfl) ?_
        refine va_iald hx hb hK hP (2 * j + 1 + 20 + 4) 0 (hW_num hj) rfl (vp_in_nI (show p0 < 6 by omega) (by decide)) dX2_goOn_63 ?_
        rw [nI_clamp (by omega), hp2]
        refine g_aldq hx hb hK hP (1) 2 (rfl) rfl (vp_in_nI hr10 (by decide)) (gRf_at hr10 (by decide)) dX2_goOn_64 ?_
        refine lv_astore (lv' := [(5, .ref _), (4, .int _), (0, .ref _), (1, .ref _), (2, .int _), (3, .int _)]) hx hb dX2_goOn_65 hl (by decide) rfl (fun ls hl => ?_)
        refine lv_aload hx hb dX2_goOn_67 (lv_at hl 0 rfl) ?_
        refine lv_dup hx hb dX2_goOn_69 rfl ?_
        refine va_get (C := RX1) (T := TX1) (N := 5) (ci := 1) hx hb hts hi_X1 hown hK hP (2 * r + 4) (hW_row hr10) rfl 3 (by decide) (hts (.fieldLink RX2 95 "GroupSeats$Row" "holds" "I") (by decide +kernel)) (fun _ h9 => h9) rfl dX2_goOn_70 ?_
        refine lv_iconst (v := 1) hx hb dX2_goOn_73 (by decide) ?_
        refine lv_iadd hx hb dX2_goOn_74 ?_
        refine va_put (C := RX1) (T := TX1) (N := 5) (ci := 1) (ty := .int) hx hb hts hi_X1 tyX1 tyX1_ok nmX1 hown hK hP hD hS (2 * r + 4) (hW_row hr10) rfl 3 (by decide) (hts (.fieldLink RX2 95 "GroupSeats$Row" "holds" "I") (by decide +kernel)) (fun _ h9 => h9) rfl (by decide +kernel) rfl rfl (Nat.le_of_ble_eq_true rfl) dX2_goOn_75 (fun H locs hP hD hS => ?_)
        have hP : va_P D vwCl ((hW K a z sd ho bk ow pl pn pm nm cn co qu (nI B) (nI wt) (nI mh) fl).set (2 * r + 4) (a 1 r, gRow (a 2 r) (nI (z r)) (sd r) (ho r + 1) (bk r))) H := hP
        have hD : va_D A ((hW K a z sd ho bk ow pl pn pm nm cn co qu (nI B) (nI wt) (nI mh) fl).set (2 * r + 4) (a 1 r, gRow (a 2 r) (nI (z r)) (sd r) (ho r + 1) (bk r))) := hD
        rw [hW_setHo hr10] at hP hD
        refine lv_aload_n hx hb dX2_goOn_78 rfl (lv_at hl 2 rfl) ?_
        refine lv_aload_n hx hb dX2_goOn_79 rfl (lv_at hl 2 rfl) ?_
        refine va_get (C := RX2) (T := TX2) (N := 8) (ci := 2) hx hb hts hi_X2 hown hK hP (0) (rfl) rfl 6 (by decide) (hts (.fieldLink RX2 101 "GroupSeats" "mostHeld" "I") (by decide +kernel)) (fun _ h9 => h9) rfl dX2_goOn_80 ?_
        refine lv_iload_n hx hb dX2_goOn_83 rfl (lv_at hl 4 rfl) ?_
        refine lv_iconst (v := 1) hx hb dX2_goOn_84 (by decide) ?_
        refine lv_iadd hx hb dX2_goOn_85 ?_
        refine va_mmax hx hb (hml.trans hl.1.symm) hown (hts (.methodLink RX2 118 Lib.Math.max.name) (by decide +kernel)) (hts (.static Lib.Math.max.name) (by decide +kernel)) (hts (.initialized "java/lang/Math") (by decide +kernel)) (hts _ (List.mem_cons_of_mem _ (List.mem_append_left _ (List.mem_append_left _ (List.mem_append_left _ (List.mem_append_left _ (List.mem_of_getElem? (l := wsX2_goOn_r1) (i := 9) rfl))))))) (by show 1 ≤ rs.length + 1 + 3; omega) (by show (1 : Nat) + 13 ≤ 100 + 30 * (rs.length + 1); omega) (Nat.zero_le _) (Nat.zero_le _) dX2_goOn_86 ?_
        rw [nI_1, g_max (by omega) (by omega)]
        refine va_put (C := RX2) (T := TX2) (N := 8) (ci := 2) (ty := .int) hx hb hts hi_X2 tyX2 tyX2_ok nmX2 hown hK hP hD hS (0) (rfl) rfl 6 (by decide) (hts (.fieldLink RX2 101 "GroupSeats" "mostHeld" "I") (by decide +kernel)) (fun _ h9 => h9) rfl (by decide +kernel) rfl rfl (Nat.le_of_ble_eq_true rfl) dX2_goOn_89 (fun H locs hP hD hS => ?_)
        have hP : va_P D vwCl (hW K a z sd (va_up ho r (ho r + 1)) bk ow pl pn pm nm cn co qu (nI B) (nI wt) (nI (max mh (p0 + 1))) fl) H := hP
        have hD : va_D A (hW K a z sd (va_up ho r (ho r + 1)) bk ow pl pn pm nm cn co qu (nI B) (nI wt) (nI (max mh (p0 + 1))) fl) := hD
        refine lv_aload hx hb dX2_goOn_92 (lv_at hl 0 rfl) ?_
        refine lv_iload_n hx hb dX2_goOn_94 rfl (lv_at hl 5 rfl) ?_
        refine lv_aload_n hx hb dX2_goOn_95 rfl (lv_at hl 2 rfl) ?_
        refine va_get (C := RX2) (T := TX2) (N := 8) (ci := 2) hx hb hts hi_X2 hown hK hP (0) (rfl) rfl 4 (by decide) (hts (.fieldLink RX2 66 "GroupSeats" "bookings" "I") (by decide +kernel)) (fun _ h9 => h9) rfl dX2_goOn_96 ?_
        refine g_calli (va_runV (As := [.int _, .int _]) (rest := []) ⟨hx, hb, hml, hown, hts⟩ (c_take l D K _ (a 1 r) (a 2 r) (2 * r + 4) (2 * r + 1 + 4) (z r) (sd r) (va_up ho r (ho r + 1) r) (bk r) (ow r) w (nI B) _ (by omega) (by omega) (hz r hr10) (hW_row hr10) (hW_own hr10)) (cwV 2 hts gX2_goOn_X1_take rfl rfl rfl (by decide +kernel) ⟨by show 1 + 1 ≤ rs.length + 1 + 3; omega, by show 8 + (7 + 11) + 40 ≤ 100 + 30 * (rs.length + 1); omega⟩) (g_preV hK hP hD (ci := 1) (q0 := 2 * r + 4) rfl (hW_row hr10)) rfl rfl hl.1 rfl (lv_room (Nat.le_of_ble_eq_true rfl)) dX2_goOn_99 ⟨Nat.zero_le _, Nat.zero_le _⟩) hD hS hA (fun r99 wv H locs hw hP hD hS => ?_)
        obtain ⟨ew, er⟩ := hw
        rw [ew, hW_setOwn hr10] at hP hD
        subst er
        refine lv_istore (lv' := [(6, .int _), (5, .ref _), (4, .int _), (0, .ref _), (1, .ref _), (2, .int _), (3, .int _)]) hx hb dX2_goOn_102 hl (by decide) rfl (fun ls hl => ?_)
        refine lv_aload_n hx hb dX2_goOn_104 rfl (lv_at hl 3 rfl) ?_
        refine lv_aload_n hx hb dX2_goOn_105 rfl (lv_at hl 4 rfl) ?_
        refine lv_iload_n hx hb dX2_goOn_106 rfl (lv_at hl 5 rfl) ?_
        refine lv_iconst (v := 1) hx hb dX2_goOn_107 (by decide) ?_
        refine lv_iadd hx hb dX2_goOn_108 ?_
        refine lv_iload_n hx hb dX2_goOn_109 rfl (lv_at hl 6 rfl) ?_
        refine lv_iload hx hb dX2_goOn_110 (lv_at hl 0 rfl) ?_
        refine g_calli (va_runS (As := [.int _]) (rest := [.int _, .int _, .ref _, .ref _]) ⟨hx, hb, hml, hown, hts⟩ (c_bitCount l D K _ _ _ (tk_lt (hz r hr10))) (va_cwS 1 hts gX2_goOn_J6_bitCount_0f7a4 rfl rfl rfl (by decide +kernel) ⟨by show 0 + 1 ≤ rs.length + 1 + 3; omega, by show 8 + (1 + 11) + 0 ≤ 100 + 30 * (rs.length + 1); omega⟩) (g_preS hK hP hD) rfl rfl hl.1 rfl (lv_room (Nat.le_of_ble_eq_true rfl)) dX2_goOn_112 ⟨Nat.zero_le _, Nat.zero_le _⟩) hD hS hA (fun r112 wv H locs hw hP hD hS => ?_)
        obtain ⟨ew, er⟩ := hw
        rw [ew] at hP hD
        rw [tk_pc (hz r hr10)] at er
        subst er
        refine lv_isub hx hb dX2_goOn_115 ?_
        rw [nI_1, pk_sub (tkC_le (ow r) (z r) (sd r) w)]
        refine g_calli (va_runV (As := [.ref _, .int _, .int _]) (rest := []) ⟨hx, hb, hml, hown, hts⟩ (ih (p0 + 1) (w - tkC (ow r) (z r) (sd r) w) (max mh (p0 + 1)) (va_up ho r (ho r + 1)) bk (va_up ow r (tkF (nI B) (ow r) (z r) (sd r) w)) _ hp3 (by omega) (by omega) (by omega)) (cwV 3 hts gX2_goOn_X2_goOn rfl rfl rfl (by decide +kernel) ⟨by show rs.length + 3 + 1 ≤ rs.length + 1 + 3; omega, by show 8 + (8 + 11) + (100 + 30 * rs.length) ≤ 100 + 30 * (rs.length + 1); omega⟩) (g_preV hK hP hD (ci := 2) (q0 := 0) rfl (rfl)) rfl rfl hl.1 rfl (lv_room (Nat.le_of_ble_eq_true rfl)) dX2_goOn_116 ⟨Nat.zero_le _, Nat.zero_le _⟩) hD hS hA (fun r116 wv H locs hw hP hD hS => ?_)
        obtain ⟨er2, ho2, bk2, ew⟩ := hw
        rw [ew] at hP hD
        refine lv_istore (lv' := [(7, .int _), (6, .int _), (5, .ref _), (4, .int _), (0, .ref _), (1, .ref _), (2, .int _), (3, .int _)]) hx hb dX2_goOn_119 hl (by decide) rfl (fun ls hl => ?_)
        refine lv_iload hx hb dX2_goOn_121 (lv_at hl 0 rfl) ?_
        refine lv_if_eq (tgt := 133) hx hb dX2_goOn_123 (by decide) (fun c123 => ?_) (fun c123 => ?_)
        · refine lv_iload hx hb dX2_goOn_133 (lv_at hl 0 rfl) ?_
          exact g_iret hx hb hr hlocks (Nat.le_of_ble_eq_true rfl) (Nat.le_of_ble_eq_true rfl) hK hP hD hS dX2_goOn_135 (by rw [goA_step hw0 c16]; rw [er2] at c123; exact ⟨er2, ho2, bk2, by rw [if_pos c123, if_pos c123]⟩)
        · rw [er2] at c123
          rw [if_neg c123] at hP hD
          refine lv_aload hx hb dX2_goOn_126 (lv_at hl 2 rfl) ?_
          refine lv_iload hx hb dX2_goOn_128 (lv_at hl 1 rfl) ?_
          refine g_callv (va_runV (As := [.int _]) (rest := []) ⟨hx, hb, hml, hown, hts⟩ (c_giveBack l D K _ (a 1 r) (a 2 r) (2 * r + 4) (2 * r + 1 + 4) (z r) (sd r) (ho2 r) (bk2 r) (va_up ow r (tkF (nI B) (ow r) (z r) (sd r) w) r) _ _ (by omega) (tk_lt (hz r hr10)) (hz r hr10) (hW_row hr10) (hW_own hr10)) (cwV 1 hts gX2_goOn_X1_giveBack rfl rfl rfl (by decide +kernel) ⟨by show 0 + 1 ≤ rs.length + 1 + 3; omega, by show 8 + (3 + 11) + 0 ≤ 100 + 30 * (rs.length + 1); omega⟩) (g_preV hK hP hD (ci := 1) (q0 := 2 * r + 4) rfl (hW_row hr10)) rfl rfl hl.1 rfl (lv_room (Nat.le_of_ble_eq_true rfl)) dX2_goOn_130 ⟨Nat.zero_le _, Nat.zero_le _⟩) hD hS hA (fun wv H locs hw hP hD hS => ?_)
          rw [hw, hW_setBk hr10, hW_setOwn hr10, va_up_self, gb_back hb8, va_up_uu, va_up_id] at hP hD
          refine lv_iload hx hb dX2_goOn_133 (lv_at hl 0 rfl) ?_
          exact g_iret hx hb hr hlocks (Nat.le_of_ble_eq_true rfl) (Nat.le_of_ble_eq_true rfl) hK hP hD hS dX2_goOn_135 (by rw [goA_step hw0 c16]; exact ⟨er2, ho2, _, by rw [if_neg c123]⟩)
      · refine lv_aload_n hx hb dX2_goOn_19 rfl (lv_at hl 2 rfl) ?_
        refine va_get (C := RX0) (T := TX0) (N := 4) (ci := 0) hx hb hts hi_X0 hown hK hP (2 * j + 20 + 4) (hW_par hj) rfl 3 (by decide) (hts (.fieldLink RX2 70 "GroupSeats$Party" "mode" "I") (by decide +kernel)) (fun _ h9 => h9) rfl dX2_goOn_20 ?_
        refine lv_iconst (v := 1) hx hb dX2_goOn_23 (by decide) ?_
        refine lv_icmp_ne (tgt := 39) hx hb dX2_goOn_24 (by decide) (fun c24 => ?_) (fun c24 => ?_)
        · refine lv_iconst (v := 0) hx hb dX2_goOn_39 (by decide) ?_
          refine lv_istore (lv' := [(5, .int _), (4, .int _), (0, .ref _), (1, .ref _), (2, .int _), (3, .int _)]) hx hb dX2_goOn_40 hl (by decide) rfl (fun ls hl => ?_)
          refine lv_iload hx hb dX2_goOn_42 (lv_at hl 0 rfl) ?_
          refine lv_if_eq (tgt := 51) hx hb dX2_goOn_44 (by decide) (fun c44 => ?_) (fun c44 => ?_)
          · refine lv_iload hx hb dX2_goOn_51 (lv_at hl 1 rfl) ?_
            exact g_iret hx hb hr hlocks (Nat.le_of_ble_eq_true rfl) (Nat.le_of_ble_eq_true rfl) hK hP hD hS dX2_goOn_53 (by rw [goA_stop hw0 c16]; rw [if_neg (fun h => c24 (hmo.trans h.1))]; exact gPo_same)
          · exact absurd rfl c44
        · refine lv_iload_n hx hb dX2_goOn_27 rfl (lv_at hl 4 rfl) ?_
          refine lv_aload_n hx hb dX2_goOn_28 rfl (lv_at hl 2 rfl) ?_
          refine va_get (C := RX0) (T := TX0) (N := 4) (ci := 0) hx hb hts hi_X0 hown hK hP (2 * j + 20 + 4) (hW_par hj) rfl 2 (by decide) (hts (.fieldLink RX2 69 "GroupSeats$Party" "size" "I") (by decide +kernel)) (fun _ h9 => h9) rfl dX2_goOn_29 ?_
          refine lv_icmp_ge (tgt := 39) hx hb dX2_goOn_32 (by decide) (fun c32 => ?_) (fun c32 => ?_)
          · refine lv_iconst (v := 0) hx hb dX2_goOn_39 (by decide) ?_
            refine lv_istore (lv' := [(5, .int _), (4, .int _), (0, .ref _), (1, .ref _), (2, .int _), (3, .int _)]) hx hb dX2_goOn_40 hl (by decide) rfl (fun ls hl => ?_)
            refine lv_iload hx hb dX2_goOn_42 (lv_at hl 0 rfl) ?_
            refine lv_if_eq (tgt := 51) hx hb dX2_goOn_44 (by decide) (fun c44 => ?_) (fun c44 => ?_)
            · refine lv_iload hx hb dX2_goOn_51 (lv_at hl 1 rfl) ?_
              exact g_iret hx hb hr hlocks (Nat.le_of_ble_eq_true rfl) (Nat.le_of_ble_eq_true rfl) hK hP hD hS dX2_goOn_53 (by rw [goA_stop hw0 c16]; rw [if_neg (fun h => by rw [hn] at c32; have := (nI_leI (by omega) (by omega)).mp c32; omega)]; exact gPo_same)
            · exact absurd rfl c44
          · refine lv_iconst (v := 1) hx hb dX2_goOn_35 (by decide) ?_
            refine lv_goto (tgt := 40) hx hb dX2_goOn_36 (by decide) ?_
            refine lv_istore (lv' := [(5, .int _), (4, .int _), (0, .ref _), (1, .ref _), (2, .int _), (3, .int _)]) hx hb dX2_goOn_40 hl (by decide) rfl (fun ls hl => ?_)
            refine lv_iload hx hb dX2_goOn_42 (lv_at hl 0 rfl) ?_
            refine lv_if_eq (tgt := 51) hx hb dX2_goOn_44 (by decide) (fun c44 => ?_) (fun c44 => ?_)
            · exact absurd c44 (by decide)
            · refine lv_iconst (v := 0) hx hb dX2_goOn_47 (by decide) ?_
              refine lv_goto (tgt := 53) hx hb dX2_goOn_48 (by decide) ?_
              exact g_iret hx hb hr hlocks (Nat.le_of_ble_eq_true rfl) (Nat.le_of_ble_eq_true rfl) hK hP hD hS dX2_goOn_53 (by rw [goA_stop hw0 c16]; rw [if_pos ⟨hmo.symm.trans c24, Nat.lt_of_not_le (fun q => c32 (by rw [hn]; exact nI_le q (by omega)))⟩]; exact gPo_same)
    · refine lv_iconst (v := 0) hx hb dX2_goOn_4 (by decide) ?_
      exact g_iret hx hb hr hlocks (Nat.le_of_ble_eq_true rfl) (Nat.le_of_ble_eq_true rfl) hK hP hD hS dX2_goOn_5 (by have hw0 : w = 0 := Classical.not_not.mp (fun q => c1 (by rw [show (0 : Int32) = nI 0 from rfl]; exact nI_lt (by omega) (by omega))); subst hw0; rw [goA_done]; exact gPo_same)
end
section
abbrev Pty : Type := Nat × List Nat
theorem goA_mh {z : Nat → Nat} {sd : Nat → Int32} {b : Int32} {n : Nat} {mo : Int32} : ∀ (rs : List Nat) (w p : Nat) (ow : Nat → Nat → Int32) (mh : Nat), mh ≤ 6 → p + rs.length ≤ 6 → (goA z sd b n mo rs w p ow mh).2.2 ≤ 6
  | [], w, p, ow, mh, h, _ => h
  | r :: rs, w, p, ow, mh, h, hp => by
    rw [List.length_cons] at hp
    simp only [goA]
    split
    · exact h
    · split
      · exact goA_mh rs _ (p + 1) _ _ (by omega) (by omega)
      · exact h
theorem obs_neg {z : Nat → Nat} (rs : List Nat) : obsL z rs = 0 ∨ obsL z rs = -4 ∨ obsL z rs = -5 ∨ obsL z rs = -6 := by
  cases rs with
  | nil => exact Or.inr (Or.inl rfl)
  | cons r rs =>
    rw [obsL_cons]
    split
    · split
      · exact Or.inr (Or.inr (Or.inl rfl))
      · exact Or.inl rfl
    · exact Or.inr (Or.inr (Or.inr rfl))
theorem goA_neg {z : Nat → Nat} {sd : Nat → Int32} {b : Int32} {n : Nat} {mo : Int32} : ∀ (rs : List Nat) (w p : Nat) (ow : Nat → Nat → Int32) (mh : Nat), (goA z sd b n mo rs w p ow mh).1 = 0 ∨ (goA z sd b n mo rs w p ow mh).1 = -4 ∨ (goA z sd b n mo rs w p ow mh).1 = -5 ∨ (goA z sd b n mo rs w p ow mh).1 = -6
  | [], w, p, ow, mh => by
    simp only [goA]
    split
    · exact Or.inl rfl
    · split
      · exact Or.inl rfl
      · exact Or.inr (Or.inl rfl)
  | r :: rs, w, p, ow, mh => by
    simp only [goA]
    split
    · exact Or.inl rfl
    · split
      · exact goA_neg rs _ _ _ _
      · simp only
        split
        · exact Or.inl rfl
        · exact obs_neg (r :: rs)
/-- those that wait are tried, each once and in order: who stays, bookings, owners, the most held, failures -/
def tryA (z : Nat → Nat) (sd : Nat → Int32) : List Pty → Nat → (Nat → Nat → Int32) → Nat → Int32 → List Pty × Nat × (Nat → Nat → Int32) × Nat × Int32
  | [], B, ow, mh, fl => ([], B, ow, mh, fl)
  | P :: ps, B, ow, mh, fl =>
    if B < 40 then
      (if (goA z sd (nI B) P.1 2 P.2 P.1 0 ow mh).1 = 0 then tryA z sd ps (B + 1) (goA z sd (nI B) P.1 2 P.2 P.1 0 ow mh).2.1 (goA z sd (nI B) P.1 2 P.2 P.1 0 ow mh).2.2 fl
       else (P :: (tryA z sd ps B ow (goA z sd (nI B) P.1 2 P.2 P.1 0 ow mh).2.2 (fl + 1)).1, (tryA z sd ps B ow (goA z sd (nI B) P.1 2 P.2 P.1 0 ow mh).2.2 (fl + 1)).2))
    else (P :: (tryA z sd ps B ow mh fl).1, (tryA z sd ps B ow mh fl).2)
theorem tryA_full {z : Nat → Nat} {sd : Nat → Int32} {P : Pty} {ps : List Pty} {B : Nat} {ow : Nat → Nat → Int32} {mh : Nat} {fl : Int32} (h : ¬ B < 40) : tryA z sd (P :: ps) B ow mh fl = (P :: (tryA z sd ps B ow mh fl).1, (tryA z sd ps B ow mh fl).2) := by
  simp only [tryA, if_neg h]
theorem tryA_got {z : Nat → Nat} {sd : Nat → Int32} {P : Pty} {ps : List Pty} {B : Nat} {ow : Nat → Nat → Int32} {mh : Nat} {fl : Int32} (h : B < 40) (hg : (goA z sd (nI B) P.1 2 P.2 P.1 0 ow mh).1 = 0) : tryA z sd (P :: ps) B ow mh fl = tryA z sd ps (B + 1) (goA z sd (nI B) P.1 2 P.2 P.1 0 ow mh).2.1 (goA z sd (nI B) P.1 2 P.2 P.1 0 ow mh).2.2 fl := by
  simp only [tryA, if_pos h, if_pos hg]
theorem tryA_not {z : Nat → Nat} {sd : Nat → Int32} {P : Pty} {ps : List Pty} {B : Nat} {ow : Nat → Nat → Int32} {mh : Nat} {fl : Int32} (h : B < 40) (hg : ¬ (goA z sd (nI B) P.1 2 P.2 P.1 0 ow mh).1 = 0) : tryA z sd (P :: ps) B ow mh fl = (P :: (tryA z sd ps B ow (goA z sd (nI B) P.1 2 P.2 P.1 0 ow mh).2.2 (fl + 1)).1, (tryA z sd ps B ow (goA z sd (nI B) P.1 2 P.2 P.1 0 ow mh).2.2 (fl + 1)).2) := by
  simp only [tryA, if_pos h, if_neg hg]
/-- party j is P, and would wait -/
def PR (pl pn pm : Nat → Int32) (nm : Nat → Nat → Int32) (j : Nat) (P : Pty) : Prop := pl j = nI P.2.length ∧ pn j = nI P.1 ∧ pm j = 2 ∧ isL (nm j) P.2 ∧ 1 ≤ P.1 ∧ P.1 ≤ 60
def PQ (pl pn pm : Nat → Int32) (nm : Nat → Nat → Int32) (qu : Nat → Nat) (off : Nat) (ps : List Pty) : Prop := ∀ (i : Nat) (P : Pty), ps[i]? = some P → PR pl pn pm nm (qu (off + i)) P
/-- nine parties: the coming one, and the eight of the queue -/
def PM (qu : Nat → Nat) (co : Nat) : Prop := (∀ i, i < 8 → qu i < 9) ∧ co < 9 ∧ (∀ i k, i < 8 → k < 8 → qu i = qu k → i = k) ∧ ∀ i, i < 8 → qu i ≠ co
theorem PQ_tail {pl pn pm : Nat → Int32} {nm : Nat → Nat → Int32} {qu : Nat → Nat} {off : Nat} {P : Pty} {ps : List Pty} (h : PQ pl pn pm nm qu off (P :: ps)) : PQ pl pn pm nm qu (off + 1) ps := fun i Q hi => by
  rw [show off + 1 + i = off + (i + 1) by omega]
  exact h (i + 1) Q hi
def swp (qu : Nat → Nat) (k s : Nat) : Nat → Nat := va_up (va_up qu k (qu s)) s (qu k)
theorem swp_s (qu : Nat → Nat) (k s : Nat) : swp qu k s s = qu k := by simp [swp, va_up]
theorem swp_ne {qu : Nat → Nat} {k s i : Nat} (h1 : i ≠ k) (h2 : i ≠ s) : swp qu k s i = qu i := by simp [swp, va_up, h1, h2]
theorem swp_k {qu : Nat → Nat} {k s : Nat} : swp qu k s k = qu s := by
  by_cases h : k = s
  · subst h; simp [swp, va_up]
  · simp [swp, va_up, h]
theorem PM_swp {qu : Nat → Nat} {co k s : Nat} (h : PM qu co) (hk : k < 8) (hs : s < 8) : PM (swp qu k s) co := by
  obtain ⟨h1, h2, h3, h4⟩ := h
  have v : ∀ i, i < 8 → ∃ i', i' < 8 ∧ swp qu k s i = qu i' ∧ (i = k → i' = s) ∧ (i = s → i' = k) ∧ (i ≠ k → i ≠ s → i' = i) := fun i hi => by
    by_cases e1 : i = s
    · subst e1
      exact ⟨k, hk, swp_s _ _ _, fun q => q.symm, fun _ => rfl, fun _ q => absurd rfl q⟩
    · by_cases e2 : i = k
      · subst e2
        exact ⟨s, hs, swp_k, fun _ => rfl, fun q => absurd q e1, fun q => absurd rfl q⟩
      · exact ⟨i, hi, swp_ne e2 e1, fun q => absurd q e2, fun q => absurd q e1, fun _ _ => rfl⟩
  refine ⟨fun i hi => ?_, h2, fun i j hi hj e => ?_, fun i hi => ?_⟩
  · obtain ⟨i', a, b, _⟩ := v i hi
    rw [b]; exact h1 i' a
  · obtain ⟨i', a, b, c1, c2, c3⟩ := v i hi
    obtain ⟨j', a', b', d1, d2, d3⟩ := v j hj
    rw [b, b'] at e
    have e := h3 i' j' a a' e
    by_cases x1 : i = k <;> by_cases x2 : i = s <;> by_cases y1 : j = k <;> by_cases y2 : j = s <;> simp_all
  · obtain ⟨i', a, b, _⟩ := v i hi
    rw [b]; exact h4 i' a
theorem hq_up {a : Nat → Nat → Nat} {qu : Nat → Nat} {k j : Nat} (hk : k < 8) : va_up (gRf 8 (fun i => a 3 (qu i))) (nI k).toNatClampNeg (some (a 3 j)) = gRf 8 (fun i => a 3 (va_up qu k j i)) := by
  rw [nI_clamp (by omega)]
  funext i
  by_cases h : i = k
  · subst h; simp [va_up, gRf, hk]
  · simp [va_up, gRf, h]
def gTo (K : gCl) (a : Nat → Nat → Nat) (z : Nat → Nat) (sd : Nat → Int32) (pl pn pm : Nat → Int32) (nm : Nat → Nat → Int32) (cn : Nat → Int32) (co : Nat) (qu : Nat → Nat) (B wt : Nat) (fl : Int32) (ow : Nat → Nat → Int32) (G : Int32 × (Nat → Nat → Int32) × Nat) : Int32 → va_W → Prop := fun r1 w1 =>
  (G.1 = 0 → r1 = nI B ∧ ∃ ho' bk' : Nat → Int32, w1 = hW K a z sd ho' bk' G.2.1 pl pn pm nm cn co qu (nI (B + 1)) (nI wt) (nI G.2.2) fl) ∧ (G.1 ≠ 0 → r1 = G.1 ∧ ∃ ho' bk' : Nat → Int32, w1 = hW K a z sd ho' bk' ow pl pn pm nm cn co qu (nI B) (nI wt) (nI G.2.2) (fl + 1))
set_option maxHeartbeats 4000000 in
set_option maxRecDepth 100000 in
/-- goThrough -/
theorem c_goThrough (l : Launch) (D : va_G) (K : gCl) (a : Nat → Nat → Nat) (z : Nat → Nat) (sd ho bk : Nat → Int32) (ow : Nat → Nat → Int32) (pl pn pm : Nat → Int32) (nm : Nat → Nat → Int32) (cn : Nat → Int32) (co : Nat) (qu : Nat → Nat) (B wt mh : Nat) (fl : Int32) (j n : Nat) (mo : Int32) (L : List Nat) (sz : Nat) (hj : j < 9) (hz : ∀ i, i < 10 → z i ≤ 20) (hlen : pl j = nI L.length) (hL : isL (nm j) L) (hn : pn j = nI n) (hn60 : n ≤ 60) (hmo : pm j = mo) (hB : B < 100) (hmh : mh ≤ 100) : gMi l yX2_goThrough wsX2_goThrough ({ frames := 10, cells := 0, slots := 0, locals := 320 } : Room) D vwCl (gT K) [.ref (a 0 0), .ref (a 3 j)] (hW K a z sd ho bk ow pl pn pm nm cn co qu (nI B) (nI wt) (nI mh) fl) sz (gTo K a z sd pl pn pm nm cn co qu B wt fl ow (goA z sd (nI B) n mo L n 0 ow mh)) 0 0 := by
  refine g_of (cc := cX2_goThrough) (maxL := 4) (ret := (some .int)) (Qc := fun A => va_Qi (gTo K a z sd pl pn pm nm cn co qu B wt fl ow (goA z sd (nI B) n mo L n 0 ow mh)) (gB D vwCl (gT K) A) A) (by decide) rfl (Nat.le_of_ble_eq_true rfl) ?_
  intro p e s m below meth c A ls I hl
  have I0 := I
  obtain ⟨hx, hb, hr, hml, hown, hts, hlocks, hnm, hA, hK, hP, hD, hS⟩ := I
  have hown : s.vm.findClass RX2 = some m.cls := hown
  have hl : lv_has ls 4 [(0, .ref (a 0 0)), (1, .ref (a 3 j))] := hl
  have hi_X2 : ∀ w ∈ u_ws RX2 TX2 8, w ∈ wsX2_goThrough := by decide +kernel
  have hi_X0 : ∀ w ∈ u_ws RX0 TX0 4, w ∈ wsX2_goThrough := by decide +kernel
  have hL6 := hL.1
  refine lv_aload_n hx hb dX2_goThrough_0 rfl (lv_at hl 0 rfl) ?_
  refine lv_aload_n hx hb dX2_goThrough_1 rfl (lv_at hl 1 rfl) ?_
  refine lv_iconst (v := 0) hx hb dX2_goThrough_2 (by decide) ?_
  refine lv_aload_n hx hb dX2_goThrough_3 rfl (lv_at hl 1 rfl) ?_
  refine va_get (C := RX0) (T := TX0) (N := 4) (ci := 0) hx hb hts hi_X0 hown hK hP (2 * j + 20 + 4) (hW_par hj) rfl 2 (by decide) (hts (.fieldLink RX2 69 "GroupSeats$Party" "size" "I") (by decide +kernel)) (fun _ h9 => h9) rfl dX2_goThrough_4 ?_
  rw [hn]
  refine g_calli (va_runV (As := [.ref _, .int _, .int _]) (rest := []) ⟨hx, hb, hml, hown, hts⟩ (c_goOn l D K a z sd pl pn pm nm cn co qu B wt fl j n mo L hj hz hlen hL hn hn60 hmo hB L 0 n mh ho bk ow _ rfl (by omega) hn60 hmh) (cwV 3 hts gX2_goThrough_X2_goOn rfl rfl rfl (by decide +kernel) ⟨by show L.length + 3 + 1 ≤ 10; omega, by show 8 + (8 + 11) + (100 + 30 * L.length) ≤ 320; omega⟩) (g_preV hK hP hD (ci := 2) (q0 := 0) rfl (rfl)) rfl rfl hl.1 rfl (lv_room (Nat.le_of_ble_eq_true rfl)) dX2_goThrough_7 ⟨Nat.zero_le _, Nat.zero_le _⟩) hD hS hA (fun r7 wv H locs hw hP hD hS => ?_)
  obtain ⟨er, ho2, bk2, ew⟩ := hw
  rw [ew] at hP hD
  refine lv_istore_n (lv' := [(2, .int _), (0, .ref _), (1, .ref _)]) hx hb dX2_goThrough_10 rfl hl (by decide) rfl (fun ls hl => ?_)
  refine lv_iload_n hx hb dX2_goThrough_11 rfl (lv_at hl 0 rfl) ?_
  refine lv_if_eq (tgt := 27) hx hb dX2_goThrough_12 (by decide) (fun c12 => ?_) (fun c12 => ?_)
  · rw [er] at c12
    rw [if_pos c12] at hP hD
    refine lv_aload_n hx hb dX2_goThrough_27 rfl (lv_at hl 1 rfl) ?_
    refine va_get (C := RX2) (T := TX2) (N := 8) (ci := 2) hx hb hts hi_X2 hown hK hP (0) (rfl) rfl 4 (by decide) (hts (.fieldLink RX2 66 "GroupSeats" "bookings" "I") (by decide +kernel)) (fun _ h9 => h9) rfl dX2_goThrough_28 ?_
    refine lv_istore_n (lv' := [(3, .int _), (2, .int _), (0, .ref _), (1, .ref _)]) hx hb dX2_goThrough_31 rfl hl (by decide) rfl (fun ls hl => ?_)
    refine lv_aload_n hx hb dX2_goThrough_32 rfl (lv_at hl 2 rfl) ?_
    refine lv_dup hx hb dX2_goThrough_33 rfl ?_
    refine va_get (C := RX2) (T := TX2) (N := 8) (ci := 2) hx hb hts hi_X2 hown hK hP (0) (rfl) rfl 4 (by decide) (hts (.fieldLink RX2 66 "GroupSeats" "bookings" "I") (by decide +kernel)) (fun _ h9 => h9) rfl dX2_goThrough_34 ?_
    refine lv_iconst (v := 1) hx hb dX2_goThrough_37 (by decide) ?_
    refine lv_iadd hx hb dX2_goThrough_38 ?_
    refine va_put (C := RX2) (T := TX2) (N := 8) (ci := 2) (ty := .int) hx hb hts hi_X2 tyX2 tyX2_ok nmX2 hown hK hP hD hS (0) (rfl) rfl 4 (by decide) (hts (.fieldLink RX2 66 "GroupSeats" "bookings" "I") (by decide +kernel)) (fun _ h9 => h9) rfl (by decide +kernel) rfl rfl (Nat.le_of_ble_eq_true rfl) dX2_goThrough_39 (fun H locs hP hD hS => ?_)
    have hP : va_P D vwCl (hW K a z sd ho2 bk2 (goA z sd (nI B) n mo L n 0 ow mh).2.1 pl pn pm nm cn co qu (nI B + 1) (nI wt) (nI (goA z sd (nI B) n mo L n 0 ow mh).2.2) fl) H := hP
    have hD : va_D A (hW K a z sd ho2 bk2 (goA z sd (nI B) n mo L n 0 ow mh).2.1 pl pn pm nm cn co qu (nI B + 1) (nI wt) (nI (goA z sd (nI B) n mo L n 0 ow mh).2.2) fl) := hD
    rw [nI_1 B] at hP hD
    refine lv_iload_n hx hb dX2_goThrough_42 rfl (lv_at hl 0 rfl) ?_
    exact g_iret hx hb hr hlocks (Nat.le_of_ble_eq_true rfl) (Nat.le_of_ble_eq_true rfl) hK hP hD hS dX2_goThrough_43 (⟨fun _ => ⟨rfl, ho2, bk2, rfl⟩, fun q => absurd c12 q⟩)
  · rw [er] at c12
    rw [if_neg c12] at hP hD
    refine lv_aload_n hx hb dX2_goThrough_15 rfl (lv_at hl 1 rfl) ?_
    refine lv_dup hx hb dX2_goThrough_16 rfl ?_
    refine va_get (C := RX2) (T := TX2) (N := 8) (ci := 2) hx hb hts hi_X2 hown hK hP (0) (rfl) rfl 7 (by decide) (hts (.fieldLink RX2 104 "GroupSeats" "failures" "I") (by decide +kernel)) (fun _ h9 => h9) rfl dX2_goThrough_17 ?_
    refine lv_iconst (v := 1) hx hb dX2_goThrough_20 (by decide) ?_
    refine lv_iadd hx hb dX2_goThrough_21 ?_
    refine va_put (C := RX2) (T := TX2) (N := 8) (ci := 2) (ty := .int) hx hb hts hi_X2 tyX2 tyX2_ok nmX2 hown hK hP hD hS (0) (rfl) rfl 7 (by decide) (hts (.fieldLink RX2 104 "GroupSeats" "failures" "I") (by decide +kernel)) (fun _ h9 => h9) rfl (by decide +kernel) rfl rfl (Nat.le_of_ble_eq_true rfl) dX2_goThrough_22 (fun H locs hP hD hS => ?_)
    have hP : va_P D vwCl (hW K a z sd ho2 bk2 ow pl pn pm nm cn co qu (nI B) (nI wt) (nI (goA z sd (nI B) n mo L n 0 ow mh).2.2) (fl + 1)) H := hP
    have hD : va_D A (hW K a z sd ho2 bk2 ow pl pn pm nm cn co qu (nI B) (nI wt) (nI (goA z sd (nI B) n mo L n 0 ow mh).2.2) (fl + 1)) := hD
    refine lv_iload_n hx hb dX2_goThrough_25 rfl (lv_at hl 0 rfl) ?_
    exact g_iret hx hb hr hlocks (Nat.le_of_ble_eq_true rfl) (Nat.le_of_ble_eq_true rfl) hK hP hD hS dX2_goThrough_26 (⟨fun q => absurd q c12, fun _ => ⟨er, ho2, bk2, rfl⟩⟩)
def tPo (K : gCl) (a : Nat → Nat → Nat) (z : Nat → Nat) (sd : Nat → Int32) (pl pn pm : Nat → Int32) (nm : Nat → Nat → Int32) (cn : Nat → Int32) (co : Nat) (wt : Nat) (F : List Pty × Nat × (Nat → Nat → Int32) × Nat × Int32) : Int32 → va_W → Prop := fun r1 w1 => r1 = nI (wt - F.1.length) ∧ ∃ (ho' bk' : Nat → Int32) (qu' : Nat → Nat), w1 = hW K a z sd ho' bk' F.2.2.1 pl pn pm nm cn co qu' (nI F.2.1) (nI F.1.length) (nI F.2.2.2.1) F.2.2.2.2 ∧ PM qu' co ∧ PQ pl pn pm nm qu' 0 F.1
theorem hW_setQu {K : gCl} {a : Nat → Nat → Nat} {z : Nat → Nat} {sd ho bk : Nat → Int32} {ow : Nat → Nat → Int32} {pl pn pm : Nat → Int32} {nm : Nat → Nat → Int32} {cn : Nat → Int32} {co : Nat} {qu : Nat → Nat} {B wt mh fl : Int32} {k j : Nat} (hk : k < 8) : (hW K a z sd ho bk ow pl pn pm nm cn co qu B wt mh fl).set 3 (a 0 3, gRef K.2.2.2 8 (va_up (gRf 8 (fun i => a 3 (qu i))) (nI k).toNatClampNeg (some (a 3 j)))) = hW K a z sd ho bk ow pl pn pm nm cn co (va_up qu k j) B wt mh fl := by
  rw [hq_up hk]
  rfl
set_option maxHeartbeats 4000000 in
set_option maxRecDepth 100000 in
theorem lp_try {p : Program} {l : Launch} {e : Env} {s : State} {m : MethodId} {args : Array Value} {below : List Frame} {meth : Method} {c : Code} {A : Nat → Prop} {D : va_G} {K : gCl} {ws0 : va_W} {a : Nat → Nat → Nat} {z : Nat → Nat} {sd : Nat → Int32} {pl pn pm : Nat → Int32} {nm : Nat → Nat → Int32} {cn : Nat → Int32} {co : Nat} {wt : Nat} {F : List Pty × Nat × (Nat → Nat → Int32) × Nat × Int32} (hz : ∀ i, i < 10 → z i ≤ 20) (hwt : wt ≤ 8)
    (I : gIn p s m meth c A yX2_tryThoseWaiting wsX2_tryThoseWaiting cX2_tryThoseWaiting 5 (some .int) args D vwCl (gT K) ws0)  :
    ∀ (ps : List Pty) (k s0 B mh : Nat) (St : List Pty) (ho bk : Nat → Int32) (qu : Nat → Nat) (ow : Nat → Nat → Int32) (fl : Int32) (H : Heap) (locs : List Loc), k + ps.length = wt → s0 ≤ k → St.length = s0 → B ≤ 40 → mh ≤ 6 → PM qu co → PQ pl pn pm nm qu 0 St → PQ pl pn pm nm qu k ps → St ++ (tryA z sd ps B ow mh fl).1 = F.1 → (tryA z sd ps B ow mh fl).2 = F.2 → va_P D vwCl (hW K a z sd ho bk ow pl pn pm nm cn co qu (nI B) (nI wt) (nI mh) fl) H → va_D A (hW K a z sd ho bk ow pl pn pm nm cn co qu (nI B) (nI wt) (nI mh) fl) → va_S A s.heap H locs →
    ∀ (ls : Array Slot), lv_has ls 5 [(2, .int (nI k)), (1, .int (nI s0)), (0, .ref (a 0 0))] →
    W p l e ({ frames := 11, cells := 0, slots := 0, locals := 350 } : Room) s m args below meth c H locs 0 0 (MQ below (va_Qi (tPo K a z sd pl pn pm nm cn co wt F) (gB D vwCl (gT K) A) A) args s 0 0 A) (F0 m 4 ls []) := by
  have I0 := I
  obtain ⟨hx, hb, hr, hml, hown, hts, hlocks, hnm, hA, hK, -, -, -⟩ := I
  have hown : s.vm.findClass RX2 = some m.cls := hown
  have hi_X2 : ∀ w ∈ u_ws RX2 TX2 8, w ∈ wsX2_tryThoseWaiting := by decide +kernel
  have hi_X0 : ∀ w ∈ u_ws RX0 TX0 4, w ∈ wsX2_tryThoseWaiting := by decide +kernel
  intro ps
  induction ps with
  | nil =>
    intro k s0 B mh St ho bk qu ow fl H locs hi hsk hSl hB40 hmh6 hM hSt hPs hF1 hF2 hP hD hS ls hl
    rw [List.length_nil] at hi
    have hst : F.1.length = s0 := by rw [← hF1]; simp [tryA, hSl]
    refine lv_iload_n hx hb dX2_tryThoseWaiting_4 rfl (lv_at hl 0 rfl) ?_
    refine lv_aload_n hx hb dX2_tryThoseWaiting_5 rfl (lv_at hl 2 rfl) ?_
    refine va_get (C := RX2) (T := TX2) (N := 8) (ci := 2) hx hb hts hi_X2 hown hK hP (0) (rfl) rfl 5 (by decide) (hts (.fieldLink RX2 77 "GroupSeats" "waiters" "I") (by decide +kernel)) (fun _ h9 => h9) rfl dX2_tryThoseWaiting_6 ?_
    refine lv_icmp_ge (tgt := 76) hx hb dX2_tryThoseWaiting_9 (by decide) (fun c9 => ?_) (fun c9 => ?_)
    · refine lv_aload_n hx hb dX2_tryThoseWaiting_76 rfl (lv_at hl 2 rfl) ?_
      refine va_get (C := RX2) (T := TX2) (N := 8) (ci := 2) hx hb hts hi_X2 hown hK hP (0) (rfl) rfl 5 (by decide) (hts (.fieldLink RX2 77 "GroupSeats" "waiters" "I") (by decide +kernel)) (fun _ h9 => h9) rfl dX2_tryThoseWaiting_77 ?_
      refine lv_iload_n hx hb dX2_tryThoseWaiting_80 rfl (lv_at hl 1 rfl) ?_
      refine lv_isub hx hb dX2_tryThoseWaiting_81 ?_
      refine lv_istore_n (lv' := [(2, .int _), (1, .int _), (0, .ref _)]) hx hb dX2_tryThoseWaiting_82 rfl hl (by decide) rfl (fun ls hl => ?_)
      refine lv_aload_n hx hb dX2_tryThoseWaiting_83 rfl (lv_at hl 2 rfl) ?_
      refine lv_iload_n hx hb dX2_tryThoseWaiting_84 rfl (lv_at hl 1 rfl) ?_
      refine va_put (C := RX2) (T := TX2) (N := 8) (ci := 2) (ty := .int) hx hb hts hi_X2 tyX2 tyX2_ok nmX2 hown hK hP hD hS (0) (rfl) rfl 5 (by decide) (hts (.fieldLink RX2 77 "GroupSeats" "waiters" "I") (by decide +kernel)) (fun _ h9 => h9) rfl (by decide +kernel) rfl rfl (Nat.le_of_ble_eq_true rfl) dX2_tryThoseWaiting_85 (fun H locs hP hD hS => ?_)
      have hP : va_P D vwCl (hW K a z sd ho bk ow pl pn pm nm cn co qu (nI B) (nI s0) (nI mh) fl) H := hP
      have hD : va_D A (hW K a z sd ho bk ow pl pn pm nm cn co qu (nI B) (nI s0) (nI mh) fl) := hD
      refine lv_iload_n hx hb dX2_tryThoseWaiting_88 rfl (lv_at hl 0 rfl) ?_
      exact g_iret hx hb hr hlocks (Nat.le_of_ble_eq_true rfl) (Nat.le_of_ble_eq_true rfl) hK hP hD hS dX2_tryThoseWaiting_89 (⟨by rw [pk_sub (by omega), hst], ho, bk, qu, by rw [← hF2, hst]; rfl, hM, by rw [← hF1]; simpa [tryA] using hSt⟩)
    · exact absurd (nI_le (by omega) (by omega)) c9
  | cons P ps ih =>
    intro k s0 B mh St ho bk qu ow fl H locs hi hsk hSl hB40 hmh6 hM hSt hPs hF1 hF2 hP hD hS ls hl
    rw [List.length_cons] at hi
    have hR := hPs 0 P rfl
    rw [Nat.add_zero] at hR
    have hRa := hR.2.2.2.2.1
    have hRb := hR.2.2.2.2.2
    refine lv_iload_n hx hb dX2_tryThoseWaiting_4 rfl (lv_at hl 0 rfl) ?_
    refine lv_aload_n hx hb dX2_tryThoseWaiting_5 rfl (lv_at hl 2 rfl) ?_
    refine va_get (C := RX2) (T := TX2) (N := 8) (ci := 2) hx hb hts hi_X2 hown hK hP (0) (rfl) rfl 5 (by decide) (hts (.fieldLink RX2 77 "GroupSeats" "waiters" "I") (by decide +kernel)) (fun _ h9 => h9) rfl dX2_tryThoseWaiting_6 ?_
    refine lv_icmp_ge (tgt := 76) hx hb dX2_tryThoseWaiting_9 (by decide) (fun c9 => ?_) (fun c9 => ?_)
    · exact absurd c9 (nI_ge (by omega) (by omega))
    · refine lv_aload_n hx hb dX2_tryThoseWaiting_12 rfl (lv_at hl 2 rfl) ?_
      refine va_get (C := RX2) (T := TX2) (N := 8) (ci := 2) hx hb hts hi_X2 hown hK hP (0) (rfl) rfl 2 (by decide) (hts (.fieldLink RX2 21 "GroupSeats" "queue" "[LGroupSeats$Party;") (by decide +kernel)) (fun _ h9 => h9) rfl dX2_tryThoseWaiting_13 ?_
      refine lv_iload_n hx hb dX2_tryThoseWaiting_16 rfl (lv_at hl 0 rfl) ?_
      refine g_aldq hx hb hK hP (3) 3 (rfl) rfl (vp_in_nI (show k < 8 by omega) (by decide)) (gRf_at (show k < 8 by omega) (by decide)) dX2_tryThoseWaiting_17 ?_
      refine lv_astore_n (lv' := [(3, .ref _), (2, .int _), (1, .int _), (0, .ref _)]) hx hb dX2_tryThoseWaiting_18 rfl hl (by decide) rfl (fun ls hl => ?_)
      refine lv_aload_n hx hb dX2_tryThoseWaiting_19 rfl (lv_at hl 3 rfl) ?_
      refine va_get (C := RX2) (T := TX2) (N := 8) (ci := 2) hx hb hts hi_X2 hown hK hP (0) (rfl) rfl 4 (by decide) (hts (.fieldLink RX2 66 "GroupSeats" "bookings" "I") (by decide +kernel)) (fun _ h9 => h9) rfl dX2_tryThoseWaiting_20 ?_
      refine lv_bipush (v := 40) hx hb dX2_tryThoseWaiting_23 (by decide) ?_
      refine lv_icmp_ge (tgt := 40) hx hb dX2_tryThoseWaiting_25 (by decide) (fun c25 => ?_) (fun c25 => ?_)
      · have hBf : ¬ B < 40 := fun q => absurd c25 (nI_ge (b := 40) q (by decide))
        refine lv_iconst (v := 0) hx hb dX2_tryThoseWaiting_40 (by decide) ?_
        refine lv_istore (lv' := [(4, .int _), (3, .ref _), (2, .int _), (1, .int _), (0, .ref _)]) hx hb dX2_tryThoseWaiting_41 hl (by decide) rfl (fun ls hl => ?_)
        refine lv_iload hx hb dX2_tryThoseWaiting_43 (lv_at hl 0 rfl) ?_
        refine lv_if_ne (tgt := 70) hx hb dX2_tryThoseWaiting_45 (by decide) (fun c45 => ?_) (fun c45 => ?_)
        · exact absurd rfl c45
        · refine lv_aload_n hx hb dX2_tryThoseWaiting_48 rfl (lv_at hl 4 rfl) ?_
          refine va_get (C := RX2) (T := TX2) (N := 8) (ci := 2) hx hb hts hi_X2 hown hK hP (0) (rfl) rfl 2 (by decide) (hts (.fieldLink RX2 21 "GroupSeats" "queue" "[LGroupSeats$Party;") (by decide +kernel)) (fun _ h9 => h9) rfl dX2_tryThoseWaiting_49 ?_
          refine lv_iload_n hx hb dX2_tryThoseWaiting_52 rfl (lv_at hl 2 rfl) ?_
          refine lv_aload_n hx hb dX2_tryThoseWaiting_53 rfl (lv_at hl 4 rfl) ?_
          refine va_get (C := RX2) (T := TX2) (N := 8) (ci := 2) hx hb hts hi_X2 hown hK hP (0) (rfl) rfl 2 (by decide) (hts (.fieldLink RX2 21 "GroupSeats" "queue" "[LGroupSeats$Party;") (by decide +kernel)) (fun _ h9 => h9) rfl dX2_tryThoseWaiting_54 ?_
          refine lv_iload_n hx hb dX2_tryThoseWaiting_57 rfl (lv_at hl 3 rfl) ?_
          refine g_aldq hx hb hK hP (3) 3 (rfl) rfl (vp_in_nI (show s0 < 8 by omega) (by decide)) (gRf_at (show s0 < 8 by omega) (by decide)) dX2_tryThoseWaiting_58 ?_
          refine va_astq hx hb hK hP hD hS 3 3 (2 * (qu s0) + 20 + 4) 0 rfl rfl (hW_par (hM.1 _ (by omega))) rfl (vp_in_nI (show k < 8 by omega) (by decide)) dX2_tryThoseWaiting_59 (fun H locs hP hD hS => ?_)
          have hP : va_P D vwCl ((hW K a z sd ho bk ow pl pn pm nm cn co qu (nI B) (nI wt) (nI mh) fl).set 3 (a 0 3, gRef K.2.2.2 8 (va_up (gRf 8 (fun i => a 3 (qu i))) (nI k).toNatClampNeg (some (a 3 (qu s0)))))) H := hP
          have hD : va_D A ((hW K a z sd ho bk ow pl pn pm nm cn co qu (nI B) (nI wt) (nI mh) fl).set 3 (a 0 3, gRef K.2.2.2 8 (va_up (gRf 8 (fun i => a 3 (qu i))) (nI k).toNatClampNeg (some (a 3 (qu s0)))))) := hD
          rw [hW_setQu (show k < 8 by omega)] at hP hD
          refine lv_aload_n hx hb dX2_tryThoseWaiting_60 rfl (lv_at hl 4 rfl) ?_
          refine va_get (C := RX2) (T := TX2) (N := 8) (ci := 2) hx hb hts hi_X2 hown hK hP (0) (rfl) rfl 2 (by decide) (hts (.fieldLink RX2 21 "GroupSeats" "queue" "[LGroupSeats$Party;") (by decide +kernel)) (fun _ h9 => h9) rfl dX2_tryThoseWaiting_61 ?_
          refine lv_iload_n hx hb dX2_tryThoseWaiting_64 rfl (lv_at hl 3 rfl) ?_
          refine lv_aload_n hx hb dX2_tryThoseWaiting_65 rfl (lv_at hl 1 rfl) ?_
          refine va_astq hx hb hK hP hD hS 3 3 (2 * (qu k) + 20 + 4) 0 rfl rfl (hW_par (hM.1 _ (by omega))) rfl (vp_in_nI (show s0 < 8 by omega) (by decide)) dX2_tryThoseWaiting_66 (fun H locs hP hD hS => ?_)
          have hP : va_P D vwCl ((hW K a z sd ho bk ow pl pn pm nm cn co (va_up qu k (qu s0)) (nI B) (nI wt) (nI mh) fl).set 3 (a 0 3, gRef K.2.2.2 8 (va_up (gRf 8 (fun i => a 3 ((va_up qu k (qu s0)) i))) (nI s0).toNatClampNeg (some (a 3 (qu k)))))) H := hP
          have hD : va_D A ((hW K a z sd ho bk ow pl pn pm nm cn co (va_up qu k (qu s0)) (nI B) (nI wt) (nI mh) fl).set 3 (a 0 3, gRef K.2.2.2 8 (va_up (gRf 8 (fun i => a 3 ((va_up qu k (qu s0)) i))) (nI s0).toNatClampNeg (some (a 3 (qu k)))))) := hD
          rw [hW_setQu (show s0 < 8 by omega)] at hP hD
          refine lv_iinc (lv' := [(1, .int _), (4, .int _), (3, .ref _), (2, .int _), (0, .ref _)]) hx hb dX2_tryThoseWaiting_67 hl (k := 3) rfl rfl (by decide) rfl (fun ls hl => ?_)
          refine lv_iinc (lv' := [(2, .int _), (1, .int _), (4, .int _), (3, .ref _), (0, .ref _)]) hx hb dX2_tryThoseWaiting_70 hl (k := 3) rfl rfl (by decide) rfl (fun ls hl => ?_)
          refine lv_goto (tgt := 4) hx hb dX2_tryThoseWaiting_73 (by decide) ?_
          rw [g_inc] at hl
          rw [g_inc] at hl
          rw [tryA_full (by omega)] at hF1 hF2
          have hSt2 : PQ pl pn pm nm (swp qu k s0) 0 (St ++ [P]) := by
            intro i Q hQ
            rcases Nat.lt_or_ge i St.length with q | q
            · rw [List.getElem?_append_left q] at hQ
              rw [swp_ne (by omega) (by omega)]
              exact hSt i Q hQ
            · have hiS : i = St.length := by have := (List.getElem?_eq_some_iff.mp hQ).1; simp at this; omega
              rw [hiS, List.getElem?_append_right (Nat.le_refl _), Nat.sub_self] at hQ
              cases hQ
              rw [show 0 + i = s0 by omega, swp_s]
              exact hR
          have hPs2 : PQ pl pn pm nm (swp qu k s0) (k + 1) ps := by
            intro i Q hQ
            rw [swp_ne (by omega) (by omega)]
            exact PQ_tail hPs i Q hQ
          exact ih (k + 1) (s0 + 1) B mh (St ++ [P]) ho bk (swp qu k s0) ow fl H locs (by omega) (by omega) (by simp [hSl]) (by omega) hmh6 (PM_swp hM (by omega) (by omega)) hSt2 hPs2 (by rw [← hF1]; simp) hF2 hP hD hS ls (lv_sub hl [0, 1, 4] rfl)
      · have hBl : B < 40 := Nat.lt_of_not_le (fun q => c25 (nI_le (a := 40) q (by omega)))
        refine lv_aload_n hx hb dX2_tryThoseWaiting_28 rfl (lv_at hl 3 rfl) ?_
        refine lv_aload_n hx hb dX2_tryThoseWaiting_29 rfl (lv_at hl 0 rfl) ?_
        refine g_calli (va_runV (As := [.ref _]) (rest := []) ⟨hx, hb, hml, hown, hts⟩ (c_goThrough l D K a z sd ho bk ow pl pn pm nm cn co qu B wt mh fl (qu k) P.1 2 P.2 _ (hM.1 k (by omega)) hz hR.1 hR.2.2.2.1 hR.2.1 (by omega) hR.2.2.1 (by omega) (by omega)) (cwV 1 hts gX2_tryThoseWaiting_X2_goThrough rfl rfl rfl (by decide +kernel) ⟨(Nat.le_of_ble_eq_true rfl), (Nat.le_of_ble_eq_true rfl)⟩) (g_preV hK hP hD (ci := 2) (q0 := 0) rfl (rfl)) rfl rfl hl.1 rfl (lv_room (Nat.le_of_ble_eq_true rfl)) dX2_tryThoseWaiting_30 ⟨Nat.zero_le _, Nat.zero_le _⟩) hD hS hA (fun r30 wv H locs hw hP hD hS => ?_)
        have hGm := goA_mh (z := z) (sd := sd) (b := nI B) (n := P.1) (mo := 2) P.2 P.1 0 ow mh hmh6 (by have := hR.2.2.2.1.1; omega)
        by_cases hG : (goA z sd (nI B) P.1 2 P.2 P.1 0 ow mh).1 = 0
        · obtain ⟨er, ho2, bk2, ew⟩ := hw.1 hG
          rw [ew] at hP hD
          rw [er]
          refine lv_if_lt (tgt := 40) hx hb dX2_tryThoseWaiting_33 (by decide) (fun c33 => ?_) (fun c33 => ?_)
          · exact absurd c33 (nI_pos (by omega))
          · refine lv_iconst (v := 1) hx hb dX2_tryThoseWaiting_36 (by decide) ?_
            refine lv_goto (tgt := 41) hx hb dX2_tryThoseWaiting_37 (by decide) ?_
            refine lv_istore (lv' := [(4, .int _), (3, .ref _), (2, .int _), (1, .int _), (0, .ref _)]) hx hb dX2_tryThoseWaiting_41 hl (by decide) rfl (fun ls hl => ?_)
            refine lv_iload hx hb dX2_tryThoseWaiting_43 (lv_at hl 0 rfl) ?_
            refine lv_if_ne (tgt := 70) hx hb dX2_tryThoseWaiting_45 (by decide) (fun c45 => ?_) (fun c45 => ?_)
            · refine lv_iinc (lv' := [(2, .int _), (4, .int _), (3, .ref _), (1, .int _), (0, .ref _)]) hx hb dX2_tryThoseWaiting_70 hl (k := 2) rfl rfl (by decide) rfl (fun ls hl => ?_)
              refine lv_goto (tgt := 4) hx hb dX2_tryThoseWaiting_73 (by decide) ?_
              rw [g_inc] at hl
              rw [tryA_got (by omega) hG] at hF1 hF2
              exact ih (k + 1) s0 (B + 1) (goA z sd (nI B) P.1 2 P.2 P.1 0 ow mh).2.2 St ho2 bk2 qu (goA z sd (nI B) P.1 2 P.2 P.1 0 ow mh).2.1 fl H locs (by omega) (by omega) hSl (by omega) hGm hM hSt (PQ_tail hPs) hF1 hF2 hP hD hS ls (lv_sub hl [0, 3, 4] rfl)
            · exact absurd c45 (by decide)
        · obtain ⟨er, ho2, bk2, ew⟩ := hw.2 hG
          rw [ew] at hP hD
          rw [er]
          refine lv_if_lt (tgt := 40) hx hb dX2_tryThoseWaiting_33 (by decide) (fun c33 => ?_) (fun c33 => ?_)
          · refine lv_iconst (v := 0) hx hb dX2_tryThoseWaiting_40 (by decide) ?_
            refine lv_istore (lv' := [(4, .int _), (3, .ref _), (2, .int _), (1, .int _), (0, .ref _)]) hx hb dX2_tryThoseWaiting_41 hl (by decide) rfl (fun ls hl => ?_)
            refine lv_iload hx hb dX2_tryThoseWaiting_43 (lv_at hl 0 rfl) ?_
            refine lv_if_ne (tgt := 70) hx hb dX2_tryThoseWaiting_45 (by decide) (fun c45 => ?_) (fun c45 => ?_)
            · exact absurd rfl c45
            · refine lv_aload_n hx hb dX2_tryThoseWaiting_48 rfl (lv_at hl 4 rfl) ?_
              refine va_get (C := RX2) (T := TX2) (N := 8) (ci := 2) hx hb hts hi_X2 hown hK hP (0) (rfl) rfl 2 (by decide) (hts (.fieldLink RX2 21 "GroupSeats" "queue" "[LGroupSeats$Party;") (by decide +kernel)) (fun _ h9 => h9) rfl dX2_tryThoseWaiting_49 ?_
              refine lv_iload_n hx hb dX2_tryThoseWaiting_52 rfl (lv_at hl 2 rfl) ?_
              refine lv_aload_n hx hb dX2_tryThoseWaiting_53 rfl (lv_at hl 4 rfl) ?_
              refine va_get (C := RX2) (T := TX2) (N := 8) (ci := 2) hx hb hts hi_X2 hown hK hP (0) (rfl) rfl 2 (by decide) (hts (.fieldLink RX2 21 "GroupSeats" "queue" "[LGroupSeats$Party;") (by decide +kernel)) (fun _ h9 => h9) rfl dX2_tryThoseWaiting_54 ?_
              refine lv_iload_n hx hb dX2_tryThoseWaiting_57 rfl (lv_at hl 3 rfl) ?_
              refine g_aldq hx hb hK hP (3) 3 (rfl) rfl (vp_in_nI (show s0 < 8 by omega) (by decide)) (gRf_at (show s0 < 8 by omega) (by decide)) dX2_tryThoseWaiting_58 ?_
              refine va_astq hx hb hK hP hD hS 3 3 (2 * (qu s0) + 20 + 4) 0 rfl rfl (hW_par (hM.1 _ (by omega))) rfl (vp_in_nI (show k < 8 by omega) (by decide)) dX2_tryThoseWaiting_59 (fun H locs hP hD hS => ?_)
              have hP : va_P D vwCl ((hW K a z sd ho2 bk2 ow pl pn pm nm cn co qu (nI B) (nI wt) (nI (goA z sd (nI B) P.1 2 P.2 P.1 0 ow mh).2.2) (fl + 1)).set 3 (a 0 3, gRef K.2.2.2 8 (va_up (gRf 8 (fun i => a 3 (qu i))) (nI k).toNatClampNeg (some (a 3 (qu s0)))))) H := hP
              have hD : va_D A ((hW K a z sd ho2 bk2 ow pl pn pm nm cn co qu (nI B) (nI wt) (nI (goA z sd (nI B) P.1 2 P.2 P.1 0 ow mh).2.2) (fl + 1)).set 3 (a 0 3, gRef K.2.2.2 8 (va_up (gRf 8 (fun i => a 3 (qu i))) (nI k).toNatClampNeg (some (a 3 (qu s0)))))) := hD
              rw [hW_setQu (show k < 8 by omega)] at hP hD
              refine lv_aload_n hx hb dX2_tryThoseWaiting_60 rfl (lv_at hl 4 rfl) ?_
              refine va_get (C := RX2) (T := TX2) (N := 8) (ci := 2) hx hb hts hi_X2 hown hK hP (0) (rfl) rfl 2 (by decide) (hts (.fieldLink RX2 21 "GroupSeats" "queue" "[LGroupSeats$Party;") (by decide +kernel)) (fun _ h9 => h9) rfl dX2_tryThoseWaiting_61 ?_
              refine lv_iload_n hx hb dX2_tryThoseWaiting_64 rfl (lv_at hl 3 rfl) ?_
              refine lv_aload_n hx hb dX2_tryThoseWaiting_65 rfl (lv_at hl 1 rfl) ?_
              refine va_astq hx hb hK hP hD hS 3 3 (2 * (qu k) + 20 + 4) 0 rfl rfl (hW_par (hM.1 _ (by omega))) rfl (vp_in_nI (show s0 < 8 by omega) (by decide)) dX2_tryThoseWaiting_66 (fun H locs hP hD hS => ?_)
              have hP : va_P D vwCl ((hW K a z sd ho2 bk2 ow pl pn pm nm cn co (va_up qu k (qu s0)) (nI B) (nI wt) (nI (goA z sd (nI B) P.1 2 P.2 P.1 0 ow mh).2.2) (fl + 1)).set 3 (a 0 3, gRef K.2.2.2 8 (va_up (gRf 8 (fun i => a 3 ((va_up qu k (qu s0)) i))) (nI s0).toNatClampNeg (some (a 3 (qu k)))))) H := hP
              have hD : va_D A ((hW K a z sd ho2 bk2 ow pl pn pm nm cn co (va_up qu k (qu s0)) (nI B) (nI wt) (nI (goA z sd (nI B) P.1 2 P.2 P.1 0 ow mh).2.2) (fl + 1)).set 3 (a 0 3, gRef K.2.2.2 8 (va_up (gRf 8 (fun i => a 3 ((va_up qu k (qu s0)) i))) (nI s0).toNatClampNeg (some (a 3 (qu k)))))) := hD
              rw [hW_setQu (show s0 < 8 by omega)] at hP hD
              refine lv_iinc (lv' := [(1, .int _), (4, .int _), (3, .ref _), (2, .int _), (0, .ref _)]) hx hb dX2_tryThoseWaiting_67 hl (k := 3) rfl rfl (by decide) rfl (fun ls hl => ?_)
              refine lv_iinc (lv' := [(2, .int _), (1, .int _), (4, .int _), (3, .ref _), (0, .ref _)]) hx hb dX2_tryThoseWaiting_70 hl (k := 3) rfl rfl (by decide) rfl (fun ls hl => ?_)
              refine lv_goto (tgt := 4) hx hb dX2_tryThoseWaiting_73 (by decide) ?_
              rw [g_inc] at hl
              rw [g_inc] at hl
              rw [tryA_not (by omega) hG] at hF1 hF2
              have hSt2 : PQ pl pn pm nm (swp qu k s0) 0 (St ++ [P]) := by
                intro i Q hQ
                rcases Nat.lt_or_ge i St.length with q | q
                · rw [List.getElem?_append_left q] at hQ
                  rw [swp_ne (by omega) (by omega)]
                  exact hSt i Q hQ
                · have hiS : i = St.length := by have := (List.getElem?_eq_some_iff.mp hQ).1; simp at this; omega
                  rw [hiS, List.getElem?_append_right (Nat.le_refl _), Nat.sub_self] at hQ
                  cases hQ
                  rw [show 0 + i = s0 by omega, swp_s]
                  exact hR
              have hPs2 : PQ pl pn pm nm (swp qu k s0) (k + 1) ps := by
                intro i Q hQ
                rw [swp_ne (by omega) (by omega)]
                exact PQ_tail hPs i Q hQ
              exact ih (k + 1) (s0 + 1) B (goA z sd (nI B) P.1 2 P.2 P.1 0 ow mh).2.2 (St ++ [P]) ho2 bk2 (swp qu k s0) ow (fl + 1) H locs (by omega) (by omega) (by simp [hSl]) (by omega) hGm (PM_swp hM (by omega) (by omega)) hSt2 hPs2 (by rw [← hF1]; simp) hF2 hP hD hS ls (lv_sub hl [0, 1, 4] rfl)
          · exact absurd (by rcases goA_neg (z := z) (sd := sd) (b := nI B) (n := P.1) (mo := 2) P.2 P.1 0 ow mh with q | q | q | q <;> first | exact absurd q hG | (rw [q]; decide)) c33
set_option maxHeartbeats 4000000 in
set_option maxRecDepth 100000 in
/-- tryThoseWaiting -/
theorem c_try (l : Launch) (D : va_G) (K : gCl) (a : Nat → Nat → Nat) (z : Nat → Nat) (sd ho bk : Nat → Int32) (ow : Nat → Nat → Int32) (pl pn pm : Nat → Int32) (nm : Nat → Nat → Int32) (cn : Nat → Int32) (co : Nat) (qu : Nat → Nat) (B mh : Nat) (fl : Int32) (q : List Pty) (sz : Nat) (hz : ∀ i, i < 10 → z i ≤ 20) (hq8 : q.length ≤ 8) (hB40 : B ≤ 40) (hmh6 : mh ≤ 6) (hM : PM qu co) (hPs : PQ pl pn pm nm qu 0 q) : gMi l yX2_tryThoseWaiting wsX2_tryThoseWaiting ({ frames := 11, cells := 0, slots := 0, locals := 350 } : Room) D vwCl (gT K) [.ref (a 0 0)] (hW K a z sd ho bk ow pl pn pm nm cn co qu (nI B) (nI q.length) (nI mh) fl) sz (tPo K a z sd pl pn pm nm cn co q.length (tryA z sd q B ow mh fl)) 0 0 := by
  refine g_of (cc := cX2_tryThoseWaiting) (maxL := 5) (ret := (some .int)) (Qc := fun A => va_Qi (tPo K a z sd pl pn pm nm cn co q.length (tryA z sd q B ow mh fl)) (gB D vwCl (gT K) A) A) (by decide) rfl (Nat.le_of_ble_eq_true rfl) ?_
  intro p e s m below meth c A ls I hl
  have I0 := I
  obtain ⟨hx, hb, hr, hml, hown, hts, hlocks, hnm, hA, hK, hP, hD, hS⟩ := I
  have hown : s.vm.findClass RX2 = some m.cls := hown
  have hl : lv_has ls 5 [(0, .ref (a 0 0))] := hl
  have hi_X2 : ∀ w ∈ u_ws RX2 TX2 8, w ∈ wsX2_tryThoseWaiting := by decide +kernel
  refine lv_iconst (v := 0) hx hb dX2_tryThoseWaiting_0 (by decide) ?_
  refine lv_istore_n (lv' := [(1, .int _), (0, .ref _)]) hx hb dX2_tryThoseWaiting_1 rfl hl (by decide) rfl (fun ls hl => ?_)
  refine lv_iconst (v := 0) hx hb dX2_tryThoseWaiting_2 (by decide) ?_
  refine lv_istore_n (lv' := [(2, .int _), (1, .int _), (0, .ref _)]) hx hb dX2_tryThoseWaiting_3 rfl hl (by decide) rfl (fun ls hl => ?_)
  exact lp_try (F := tryA z sd q B ow mh fl) hz hq8 I0 q 0 0 B mh [] ho bk qu ow fl _ _ (by omega) (by omega) rfl hB40 hmh6 hM (fun i P h => by simp at h) (fun i P h => by rw [Nat.zero_add]; exact hPs i P h |> fun x => by rwa [Nat.zero_add] at x) rfl rfl hP hD hS ls (lv_sub hl [0, 1, 2] rfl)
end
section
/-! THE HALL AS A VALUE: sizes, sides, owners, cancelled, bookings, those that wait, the list, the most held, failures -/
abbrev HS : Type := (Nat → Nat) × (Nat → Int32) × (Nat → Nat → Int32) × (Nat → Int32) × Nat × List Pty × List Nat × Nat × Int32
def CW (K : gCl) (h0 : Nat) (S : HS) (w : va_W) : Prop := ∃ (a : Nat → Nat → Nat) (ho bk pl pn pm : Nat → Int32) (nm : Nat → Nat → Int32) (co : Nat) (qu : Nat → Nat), a 0 0 = h0 ∧ w = hW K a S.1 S.2.1 ho bk S.2.2.1 pl pn pm nm S.2.2.2.1 co qu (nI S.2.2.2.2.1) (nI S.2.2.2.2.2.1.length) (nI S.2.2.2.2.2.2.2.1) S.2.2.2.2.2.2.2.2 ∧ PM qu co ∧ PQ pl pn pm nm qu 0 S.2.2.2.2.2.1 ∧ pl co = nI S.2.2.2.2.2.2.1.length ∧ isL (nm co) S.2.2.2.2.2.2.1
def RP (K : gCl) (h0 : Nat) (o : Int32 × HS) : Int32 → va_W → Prop := fun r w => r = o.1 ∧ CW K h0 o.2 w
abbrev inRow (x : Int32) : Prop := 0 ≤ x ∧ x < 10
def ixN (x : Int32) : Nat := x.toNatClampNeg
theorem ixN_nI {n : Nat} (h : n < 2 ^ 31) : ixN (nI n) = n := nI_clamp h
theorem inRow_nI {r : Nat} (h : r < 10) : inRow (nI r) := ⟨nI_pos' (by omega), nI_lt (b := 10) h (by decide)⟩
def cntO (z : Nat → Nat) : Nat → Nat
  | 0 => 0
  | n + 1 => cntO z n + (if z n = 0 then 0 else 1)
theorem cntO_le (z : Nat → Nat) : ∀ n, cntO z n ≤ n
  | 0 => Nat.le_refl 0
  | n + 1 => by
    have := cntO_le z n
    unfold cntO
    split <;> omega
/-! what the calls answer, and what they make of the hall -/
/-- those that wait are tried in a hall that was changed -/
def opTry (z : Nat → Nat) (sd : Nat → Int32) (ow : Nat → Nat → Int32) (cn : Nat → Int32) (B : Nat) (q : List Pty) (ls : List Nat) (mh : Nat) (fl : Int32) : Int32 × HS := (nI (q.length - (tryA z sd q B ow mh fl).1.length), (z, sd, (tryA z sd q B ow mh fl).2.2.1, cn, (tryA z sd q B ow mh fl).2.1, (tryA z sd q B ow mh fl).1, ls, (tryA z sd q B ow mh fl).2.2.2.1, (tryA z sd q B ow mh fl).2.2.2.2))
def opOpen (z : Nat → Nat) (sd : Nat → Int32) (ow : Nat → Nat → Int32) (cn : Nat → Int32) (B : Nat) (q : List Pty) (ls : List Nat) (mh : Nat) (fl : Int32) (x n : Int32) : Int32 × HS :=
  if inRow x ∧ 1 ≤ n ∧ n ≤ 20 then (if z (ixN x) = 0 then opTry (va_up z (ixN x) (ixN n)) (va_up sd (ixN x) 0) (va_up ow (ixN x) (gFill (-8) 20 (ow (ixN x)))) cn B q ls mh fl else (-2, (z, sd, ow, cn, B, q, ls, mh, fl))) else (-1, (z, sd, ow, cn, B, q, ls, mh, fl))
def opShut (z : Nat → Nat) (sd : Nat → Int32) (ow : Nat → Nat → Int32) (cn : Nat → Int32) (B : Nat) (q : List Pty) (ls : List Nat) (mh : Nat) (fl : Int32) (x : Int32) : Int32 × HS :=
  if inRow x then (if z (ixN x) ≠ 0 ∧ cntV (ow (ixN x)) (-8) (z (ixN x)) = z (ixN x) then (nI (z (ixN x)), (va_up z (ixN x) 0, sd, ow, cn, B, q, ls, mh, fl)) else (-2, (z, sd, ow, cn, B, q, ls, mh, fl))) else (-1, (z, sd, ow, cn, B, q, ls, mh, fl))
def opStrict (z : Nat → Nat) (sd : Nat → Int32) (ow : Nat → Nat → Int32) (cn : Nat → Int32) (B : Nat) (q : List Pty) (ls : List Nat) (mh : Nat) (fl : Int32) (x on : Int32) : Int32 × HS :=
  if inRow x then (if z (ixN x) = 0 then (-2, (z, sd, ow, cn, B, q, ls, mh, fl)) else (if sd (ixN x) = 0 then 0 else 1, (z, va_up sd (ixN x) on, ow, cn, B, q, ls, mh, fl))) else (-1, (z, sd, ow, cn, B, q, ls, mh, fl))
def opList (z : Nat → Nat) (sd : Nat → Int32) (ow : Nat → Nat → Int32) (cn : Nat → Int32) (B : Nat) (q : List Pty) (ls : List Nat) (mh : Nat) (fl : Int32) (x : Int32) : Int32 × HS :=
  if 0 ≤ x ∧ x ≤ 11 then (if ls.length < 6 then (nI (ls.length + 1), (z, sd, ow, cn, B, q, ls ++ [ixN x], mh, fl)) else (-3, (z, sd, ow, cn, B, q, ls, mh, fl))) else (-1, (z, sd, ow, cn, B, q, ls, mh, fl))
def opGo (z : Nat → Nat) (sd : Nat → Int32) (ow : Nat → Nat → Int32) (cn : Nat → Int32) (B : Nat) (q : List Pty) (ls : List Nat) (mh : Nat) (fl : Int32) (n : Nat) (mo : Int32) (G : Int32 × (Nat → Nat → Int32) × Nat) : Int32 × HS :=
  if G.1 = 0 then (nI B, (z, sd, G.2.1, cn, B + 1, q, [], G.2.2, fl)) else if G.1 = -4 ∧ mo = 2 ∧ q.length < 8 then (-7, (z, sd, ow, cn, B, q ++ [(n, ls)], [], G.2.2, fl + 1)) else (G.1, (z, sd, ow, cn, B, q, [], G.2.2, fl + 1))
def opBook (z : Nat → Nat) (sd : Nat → Int32) (ow : Nat → Nat → Int32) (cn : Nat → Int32) (B : Nat) (q : List Pty) (ls : List Nat) (mh : Nat) (fl : Int32) (n mo : Int32) : Int32 × HS :=
  if (1 ≤ n ∧ n ≤ 60) ∧ 0 ≤ mo ∧ mo ≤ 2 then (if ls.length = 0 then (-2, (z, sd, ow, cn, B, q, ls, mh, fl)) else if B < 40 then opGo z sd ow cn B q ls mh fl (ixN n) mo (goA z sd (nI B) (ixN n) mo ls (ixN n) 0 ow mh) else (-3, (z, sd, ow, cn, B, q, ls, mh, fl))) else (-1, (z, sd, ow, cn, B, q, ls, mh, fl))
def opCancel (z : Nat → Nat) (sd : Nat → Int32) (ow : Nat → Nat → Int32) (cn : Nat → Int32) (B : Nat) (q : List Pty) (ls : List Nat) (mh : Nat) (fl : Int32) (x : Int32) : Int32 × HS :=
  if 0 ≤ x ∧ x < nI B then (if cn (ixN x) = 0 then opTry z sd (fun i => if i < 10 then freeV (ow i) x (z i) else ow i) (upd cn (ixN x) 1) B q ls mh fl else (-2, (z, sd, ow, cn, B, q, ls, mh, fl))) else (-1, (z, sd, ow, cn, B, q, ls, mh, fl))
def opLeave (z : Nat → Nat) (sd : Nat → Int32) (ow : Nat → Nat → Int32) (cn : Nat → Int32) (B : Nat) (q : List Pty) (ls : List Nat) (mh : Nat) (fl : Int32) (x : Int32) : Int32 × HS :=
  if 0 ≤ x ∧ x < nI q.length then (nI (q.getD (ixN x) (0, [])).1, (z, sd, ow, cn, B, q.eraseIdx (ixN x), ls, mh, fl)) else (-1, (z, sd, ow, cn, B, q, ls, mh, fl))
def opSeat (z : Nat → Nat) (sd : Nat → Int32) (ow : Nat → Nat → Int32) (cn : Nat → Int32) (B : Nat) (q : List Pty) (ls : List Nat) (mh : Nat) (fl : Int32) (x i : Int32) : Int32 × HS :=
  (if inRow x ∧ 0 ≤ i then (if i < nI (z (ixN x)) then ow (ixN x) (ixN i) else -2) else -1, (z, sd, ow, cn, B, q, ls, mh, fl))
def opHas (z : Nat → Nat) (sd : Nat → Int32) (ow : Nat → Nat → Int32) (cn : Nat → Int32) (B : Nat) (q : List Pty) (ls : List Nat) (mh : Nat) (fl : Int32) (b x : Int32) : Int32 × HS :=
  (if (0 ≤ b ∧ b < nI B) ∧ inRow x then nI (cntV (ow (ixN x)) b (z (ixN x))) else -1, (z, sd, ow, cn, B, q, ls, mh, fl))
def opTold (z : Nat → Nat) (sd : Nat → Int32) (ow : Nat → Nat → Int32) (cn : Nat → Int32) (B : Nat) (q : List Pty) (ls : List Nat) (mh : Nat) (fl : Int32) (k : Int32) : Int32 × HS :=
  (if k = 0 then nI B else if k = 1 then nI q.length else if k = 2 then nI mh else if k = 3 then fl else if k = 4 then nI ls.length else if k = 5 then nI (cntO z 10) else -1, (z, sd, ow, cn, B, q, ls, mh, fl))
def opWaiting (z : Nat → Nat) (sd : Nat → Int32) (ow : Nat → Nat → Int32) (cn : Nat → Int32) (B : Nat) (q : List Pty) (ls : List Nat) (mh : Nat) (fl : Int32) (x : Int32) : Int32 × HS :=
  (if 0 ≤ x ∧ x < nI q.length then nI (q.getD (ixN x) (0, [])).1 else -8, (z, sd, ow, cn, B, q, ls, mh, fl))
theorem g_ix1 {x M : Int32} {n : Nat} (hM : M.toInt = n) (h1 : ¬ x < 1) (h2 : x ≤ M) : ∃ j : Nat, 1 ≤ j ∧ j ≤ n ∧ x = nI j := by
  simp only [Int32.le_iff_toInt_le, Int32.lt_iff_toInt_lt, gl_1] at h1 h2
  obtain ⟨j, hj, rfl⟩ := nI_of (x := x) (by rw [Int32.lt_iff_toInt_lt, gl_0]; omega)
  rw [nI_toInt hj] at h1 h2
  exact ⟨j, by omega, by omega, rfl⟩
theorem g_ixn {x : Int32} {n : Nat} (hn : n < 2 ^ 31) (h : 0 ≤ x ∧ x < nI n) : ∃ j : Nat, j < n ∧ x = nI j := g_ix (nI_toInt hn) h
theorem PR_up {pl pn pm : Nat → Int32} {nm : Nat → Nat → Int32} {c j : Nat} {P : Pty} {l' n' m' : Int32} {f' : Nat → Int32} (h : PR pl pn pm nm j P) (hj : j ≠ c) : PR (va_up pl c l') (va_up pn c n') (va_up pm c m') (va_up nm c f') j P := by
  obtain ⟨h1, h2, h3, h4, h5⟩ := h
  refine ⟨?_, ?_, ?_, ?_, h5⟩
  · rw [va_up_ne _ _ hj]; exact h1
  · rw [va_up_ne _ _ hj]; exact h2
  · rw [va_up_ne _ _ hj]; exact h3
  · rw [va_up_ne _ _ hj]; exact h4
theorem PQ_up {pl pn pm : Nat → Int32} {nm : Nat → Nat → Int32} {qu : Nat → Nat} {co : Nat} {q : List Pty} {l' n' m' : Int32} {f' : Nat → Int32} (hM : PM qu co) (hq : q.length ≤ 8) (h : PQ pl pn pm nm qu 0 q) : PQ (va_up pl co l') (va_up pn co n') (va_up pm co m') (va_up nm co f') qu 0 q := fun i P hi => by
  have hl := (List.getElem?_eq_some_iff.mp hi).1
  exact PR_up (h i P hi) (hM.2.2.2 _ (by omega))
theorem isL_push {f : Nat → Int32} {ls : List Nat} {i : Nat} (h : isL f ls) (hl : ls.length < 6) (hi : i ≤ 11) : isL (upd f ls.length (nI i)) (ls ++ [i]) := by
  obtain ⟨h1, h2, h3⟩ := h
  refine ⟨by simp; omega, fun k hk => ?_, fun r hr => ?_⟩
  · rw [List.length_append, List.length_singleton] at hk
    by_cases e : k = ls.length
    · subst e; simp [upd, List.getD_eq_getElem?_getD]
    · rw [show upd f ls.length (nI i) k = f k by simp [upd, e], h2 k (by omega)]
      simp [List.getD_eq_getElem?_getD, List.getElem?_append_left (show k < ls.length by omega)]
  · rcases List.mem_append.mp hr with q | q
    · exact h3 r q
    · rw [List.mem_singleton.mp q]; exact hi
theorem isL_nil {f : Nat → Int32} : isL f [] := ⟨by simp, fun i hi => by simp at hi, fun r hr => by simp at hr⟩
section HW2
variable {K : gCl} {a : Nat → Nat → Nat} {z : Nat → Nat} {sd ho bk : Nat → Int32} {ow : Nat → Nat → Int32} {pl pn pm : Nat → Int32} {nm : Nat → Nat → Int32} {cn : Nat → Int32} {co : Nat} {qu : Nat → Nat} {B wt mh fl : Int32}
theorem hW_setZ {i z' : Nat} (hi : i < 10) : (hW K a z sd ho bk ow pl pn pm nm cn co qu B wt mh fl).set (2 * i + 4) (a 1 i, gRow (a 2 i) (nI z') (sd i) (ho i) (bk i)) = hW K a (va_up z i z') sd ho bk ow pl pn pm nm cn co qu B wt mh fl := by
  rw [hW_setRow hi, va_up_id, va_up_id, va_up_id]
theorem hW_setSd {i : Nat} {s' : Int32} (hi : i < 10) : (hW K a z sd ho bk ow pl pn pm nm cn co qu B wt mh fl).set (2 * i + 4) (a 1 i, gRow (a 2 i) (nI (z i)) s' (ho i) (bk i)) = hW K a z (va_up sd i s') ho bk ow pl pn pm nm cn co qu B wt mh fl := by
  rw [hW_setRow hi, va_up_id, va_up_id, va_up_id]
end HW2
set_option maxHeartbeats 4000000 in
set_option maxRecDepth 100000 in
theorem h_strict (l : Launch) (D : va_G) (K : gCl) (a : Nat → Nat → Nat) (z : Nat → Nat) (sd ho bk : Nat → Int32) (ow : Nat → Nat → Int32) (pl pn pm : Nat → Int32) (nm : Nat → Nat → Int32) (cn : Nat → Int32) (co : Nat) (qu : Nat → Nat) (B mh : Nat) (fl : Int32) (q : List Pty) (li : List Nat) (x on : Int32) (sz : Nat) (hz : ∀ i, i < 10 → z i ≤ 20) (hB40 : B ≤ 40) (hq8 : q.length ≤ 8) (hmh6 : mh ≤ 6) (hM : PM qu co) (hPs : PQ pl pn pm nm qu 0 q) (hlc : pl co = nI li.length) (hLc : isL (nm co) li) (hon : on = 0 ∨ on = 1) : gMi l yX2_strict wsX2_strict ({ frames := 14, cells := 0, slots := 0, locals := 420 } : Room) D vwCl (gT K) [.ref (a 0 0), .int x, .int on] (hW K a z sd ho bk ow pl pn pm nm cn co qu (nI B) (nI q.length) (nI mh) fl) sz (RP K (a 0 0) (opStrict z sd ow cn B q li mh fl x on)) 0 0 := by
  refine g_of (cc := cX2_strict) (maxL := 4) (ret := (some .int)) (Qc := fun A => va_Qi (RP K (a 0 0) (opStrict z sd ow cn B q li mh fl x on)) (gB D vwCl (gT K) A) A) (by decide) rfl (Nat.le_of_ble_eq_true rfl) ?_
  intro p e s m below meth c A ls I hl
  have I0 := I
  obtain ⟨hx, hb, hr, hml, hown, hts, hlocks, hnm, hA, hK, hP, hD, hS⟩ := I
  have hown : s.vm.findClass RX2 = some m.cls := hown
  have hl : lv_has ls 4 [(0, .ref (a 0 0)), (1, .int x), (2, .int on)] := hl
  have hi_X2 : ∀ w ∈ u_ws RX2 TX2 8, w ∈ wsX2_strict := by decide +kernel
  have hi_X1 : ∀ w ∈ u_ws RX1 TX1 5, w ∈ wsX2_strict := by decide +kernel
  have hco := hM.2.1
  refine lv_iload_n hx hb dX2_strict_0 rfl (lv_at hl 1 rfl) ?_
  refine g_calli (va_runS (As := [.int _]) (rest := []) ⟨hx, hb, hml, hown, hts⟩ (c_isRow l D K _ _ _) (va_cwS 1 hts gX2_strict_X2_isRow rfl rfl rfl (by decide +kernel) ⟨(Nat.le_of_ble_eq_true rfl), (Nat.le_of_ble_eq_true rfl)⟩) (g_preS hK hP hD) rfl rfl hl.1 rfl (lv_room (Nat.le_of_ble_eq_true rfl)) dX2_strict_1 ⟨Nat.zero_le _, Nat.zero_le _⟩) hD hS hA (fun r1 wv H locs hw hP hD hS => ?_)
  obtain ⟨ew, e1⟩ := hw
  rw [ew] at hP hD
  refine lv_if_ne (tgt := 9) hx hb dX2_strict_4 (by decide) (fun c4 => ?_) (fun c4 => ?_)
  · simp only [e1, Classical.not_not] at c4
    obtain ⟨r, hr10, rfl⟩ := g_ix (n := 10) rfl c4
    have hrz := hz r hr10
    have hxr : ixN (nI r) = r := ixN_nI (by omega)
    refine lv_aload_n hx hb dX2_strict_9 rfl (lv_at hl 0 rfl) ?_
    refine va_get (C := RX2) (T := TX2) (N := 8) (ci := 2) hx hb hts hi_X2 hown hK hP (0) (rfl) rfl 0 (by decide) (hts (.fieldLink RX2 11 "GroupSeats" "rows" "[LGroupSeats$Row;") (by decide +kernel)) (fun _ h9 => h9) rfl dX2_strict_10 ?_
    refine lv_iload_n hx hb dX2_strict_13 rfl (lv_at hl 1 rfl) ?_
    refine g_aldq hx hb hK hP (1) 2 (rfl) rfl (vp_in_nI hr10 (by decide)) (gRf_at hr10 (by decide)) dX2_strict_14 ?_
    refine g_calli (va_runV (As := []) (rest := []) ⟨hx, hb, hml, hown, hts⟩ (c_isOpen l D K _ (a 1 r) (a 2 r) (2 * r + 4) (nI (z r)) (sd r) (ho r) (bk r) _ (hW_row hr10)) (cwV 0 hts gX2_strict_X1_isOpen rfl rfl rfl (by decide +kernel) ⟨(Nat.le_of_ble_eq_true rfl), (Nat.le_of_ble_eq_true rfl)⟩) (g_preV hK hP hD (ci := 1) (q0 := 2 * r + 4) rfl (hW_row hr10)) rfl rfl hl.1 rfl (lv_room (Nat.le_of_ble_eq_true rfl)) dX2_strict_15 ⟨Nat.zero_le _, Nat.zero_le _⟩) hD hS hA (fun r15 wv H locs hw hP hD hS => ?_)
    obtain ⟨ew, e15⟩ := hw
    rw [ew] at hP hD
    refine lv_if_ne (tgt := 24) hx hb dX2_strict_18 (by decide) (fun c18 => ?_) (fun c18 => ?_)
    · have hzr : z r ≠ 0 := fun h0 => c18 (e15.mpr (by rw [h0]; decide))
      refine lv_aload_n hx hb dX2_strict_24 rfl (lv_at hl 0 rfl) ?_
      refine va_get (C := RX2) (T := TX2) (N := 8) (ci := 2) hx hb hts hi_X2 hown hK hP (0) (rfl) rfl 0 (by decide) (hts (.fieldLink RX2 11 "GroupSeats" "rows" "[LGroupSeats$Row;") (by decide +kernel)) (fun _ h9 => h9) rfl dX2_strict_25 ?_
      refine lv_iload_n hx hb dX2_strict_28 rfl (lv_at hl 1 rfl) ?_
      refine g_aldq hx hb hK hP (1) 2 (rfl) rfl (vp_in_nI hr10 (by decide)) (gRf_at hr10 (by decide)) dX2_strict_29 ?_
      refine va_get (C := RX1) (T := TX1) (N := 5) (ci := 1) hx hb hts hi_X1 hown hK hP (2 * r + 4) (hW_row hr10) rfl 2 (by decide) (hts (.fieldLink RX2 55 "GroupSeats$Row" "sideBySide" "Z") (by decide +kernel)) (fun _ h9 => h9) rfl dX2_strict_30 ?_
      refine lv_istore_n (lv' := [(3, .int _), (0, .ref _), (1, .int _), (2, .int _)]) hx hb dX2_strict_33 rfl hl (by decide) rfl (fun ls hl => ?_)
      refine lv_aload_n hx hb dX2_strict_34 rfl (lv_at hl 1 rfl) ?_
      refine va_get (C := RX2) (T := TX2) (N := 8) (ci := 2) hx hb hts hi_X2 hown hK hP (0) (rfl) rfl 0 (by decide) (hts (.fieldLink RX2 11 "GroupSeats" "rows" "[LGroupSeats$Row;") (by decide +kernel)) (fun _ h9 => h9) rfl dX2_strict_35 ?_
      refine lv_iload_n hx hb dX2_strict_38 rfl (lv_at hl 2 rfl) ?_
      refine g_aldq hx hb hK hP (1) 2 (rfl) rfl (vp_in_nI hr10 (by decide)) (gRf_at hr10 (by decide)) dX2_strict_39 ?_
      refine lv_iload_n hx hb dX2_strict_40 rfl (lv_at hl 3 rfl) ?_
      refine va_put (C := RX1) (T := TX1) (N := 5) (ci := 1) (ty := .boolean) hx hb hts hi_X1 tyX1 tyX1_ok nmX1 hown hK hP hD hS (2 * r + 4) (hW_row hr10) rfl 2 (by decide) (hts (.fieldLink RX2 55 "GroupSeats$Row" "sideBySide" "Z") (by decide +kernel)) (fun _ h9 => h9) rfl (by decide +kernel) (by rcases hon with rfl | rfl <;> rfl) (by rcases hon with rfl | rfl <;> rfl) (Nat.le_of_ble_eq_true rfl) dX2_strict_41 (fun H locs hP hD hS => ?_)
      have hP : va_P D vwCl ((hW K a z sd ho bk ow pl pn pm nm cn co qu (nI B) (nI q.length) (nI mh) fl).set (2 * r + 4) (a 1 r, gRow (a 2 r) (nI (z r)) on (ho r) (bk r))) H := hP
      have hD : va_D A ((hW K a z sd ho bk ow pl pn pm nm cn co qu (nI B) (nI q.length) (nI mh) fl).set (2 * r + 4) (a 1 r, gRow (a 2 r) (nI (z r)) on (ho r) (bk r))) := hD
      rw [hW_setSd hr10] at hP hD
      refine lv_iload_n hx hb dX2_strict_44 rfl (lv_at hl 0 rfl) ?_
      refine lv_if_eq (tgt := 52) hx hb dX2_strict_45 (by decide) (fun c45 => ?_) (fun c45 => ?_)
      · refine lv_iconst (v := 0) hx hb dX2_strict_52 (by decide) ?_
        exact g_iret hx hb hr hlocks (Nat.le_of_ble_eq_true rfl) (Nat.le_of_ble_eq_true rfl) hK hP hD hS dX2_strict_53 (by unfold opStrict; rw [if_pos (inRow_nI hr10), hxr, if_neg hzr, if_pos c45]; exact ⟨rfl, ⟨a, ho, bk, pl, pn, pm, nm, co, qu, rfl, rfl, hM, hPs, hlc, hLc⟩⟩)
      · refine lv_iconst (v := 1) hx hb dX2_strict_48 (by decide) ?_
        refine lv_goto (tgt := 53) hx hb dX2_strict_49 (by decide) ?_
        exact g_iret hx hb hr hlocks (Nat.le_of_ble_eq_true rfl) (Nat.le_of_ble_eq_true rfl) hK hP hD hS dX2_strict_53 (by unfold opStrict; rw [if_pos (inRow_nI hr10), hxr, if_neg hzr, if_neg c45]; exact ⟨rfl, ⟨a, ho, bk, pl, pn, pm, nm, co, qu, rfl, rfl, hM, hPs, hlc, hLc⟩⟩)
    · have hzr : z r = 0 := Classical.not_not.mp (fun h0 => (e15.mp c18) (by rw [show (0 : Int32) = nI 0 from rfl]; exact nI_lt (by omega) (by omega)))
      refine lv_bipush (v := -2) hx hb dX2_strict_21 (by decide) ?_
      exact g_iret hx hb hr hlocks (Nat.le_of_ble_eq_true rfl) (Nat.le_of_ble_eq_true rfl) hK hP hD hS dX2_strict_23 (by unfold opStrict; rw [if_pos (inRow_nI hr10), hxr, if_pos hzr]; exact ⟨rfl, ⟨a, ho, bk, pl, pn, pm, nm, co, qu, rfl, rfl, hM, hPs, hlc, hLc⟩⟩)
  · simp only [e1, Classical.not_not] at c4
    refine lv_iconst (v := -1) hx hb dX2_strict_7 (by decide) ?_
    exact g_iret hx hb hr hlocks (Nat.le_of_ble_eq_true rfl) (Nat.le_of_ble_eq_true rfl) hK hP hD hS dX2_strict_8 (by unfold opStrict; rw [if_neg (fun h => by simp only [inRow, Int32.le_iff_toInt_le, Int32.lt_iff_toInt_lt, gl_m1, gl_0, gl_1, gl_2, gl_3, gl_5, gl_6, gl_8, gl_9, gl_10, gl_11, gl_20, gl_40, gl_60] at h c4; omega)]; exact ⟨rfl, ⟨a, ho, bk, pl, pn, pm, nm, co, qu, rfl, rfl, hM, hPs, hlc, hLc⟩⟩)
set_option maxHeartbeats 4000000 in
set_option maxRecDepth 100000 in
theorem h_seat (l : Launch) (D : va_G) (K : gCl) (a : Nat → Nat → Nat) (z : Nat → Nat) (sd ho bk : Nat → Int32) (ow : Nat → Nat → Int32) (pl pn pm : Nat → Int32) (nm : Nat → Nat → Int32) (cn : Nat → Int32) (co : Nat) (qu : Nat → Nat) (B mh : Nat) (fl : Int32) (q : List Pty) (li : List Nat) (x i : Int32) (sz : Nat) (hz : ∀ i, i < 10 → z i ≤ 20) (hB40 : B ≤ 40) (hq8 : q.length ≤ 8) (hmh6 : mh ≤ 6) (hM : PM qu co) (hPs : PQ pl pn pm nm qu 0 q) (hlc : pl co = nI li.length) (hLc : isL (nm co) li) : gMi l yX2_seat wsX2_seat ({ frames := 14, cells := 0, slots := 0, locals := 420 } : Room) D vwCl (gT K) [.ref (a 0 0), .int x, .int i] (hW K a z sd ho bk ow pl pn pm nm cn co qu (nI B) (nI q.length) (nI mh) fl) sz (RP K (a 0 0) (opSeat z sd ow cn B q li mh fl x i)) 0 0 := by
  refine g_of (cc := cX2_seat) (maxL := 3) (ret := (some .int)) (Qc := fun A => va_Qi (RP K (a 0 0) (opSeat z sd ow cn B q li mh fl x i)) (gB D vwCl (gT K) A) A) (by decide) rfl (Nat.le_of_ble_eq_true rfl) ?_
  intro p e s m below meth c A ls I hl
  have I0 := I
  obtain ⟨hx, hb, hr, hml, hown, hts, hlocks, hnm, hA, hK, hP, hD, hS⟩ := I
  have hown : s.vm.findClass RX2 = some m.cls := hown
  have hl : lv_has ls 3 [(0, .ref (a 0 0)), (1, .int x), (2, .int i)] := hl
  have hi_X2 : ∀ w ∈ u_ws RX2 TX2 8, w ∈ wsX2_seat := by decide +kernel
  have hi_X1 : ∀ w ∈ u_ws RX1 TX1 5, w ∈ wsX2_seat := by decide +kernel
  refine lv_iload_n hx hb dX2_seat_0 rfl (lv_at hl 1 rfl) ?_
  refine g_calli (va_runS (As := [.int _]) (rest := []) ⟨hx, hb, hml, hown, hts⟩ (c_isRow l D K _ _ _) (va_cwS 1 hts gX2_seat_X2_isRow rfl rfl rfl (by decide +kernel) ⟨(Nat.le_of_ble_eq_true rfl), (Nat.le_of_ble_eq_true rfl)⟩) (g_preS hK hP hD) rfl rfl hl.1 rfl (lv_room (Nat.le_of_ble_eq_true rfl)) dX2_seat_1 ⟨Nat.zero_le _, Nat.zero_le _⟩) hD hS hA (fun r1 wv H locs hw hP hD hS => ?_)
  obtain ⟨ew, e1⟩ := hw
  rw [ew] at hP hD
  refine lv_if_eq (tgt := 11) hx hb dX2_seat_4 (by decide) (fun c4 => ?_) (fun c4 => ?_)
  · simp only [e1, Classical.not_not] at c4
    refine lv_iconst (v := -1) hx hb dX2_seat_11 (by decide) ?_
    exact g_iret hx hb hr hlocks (Nat.le_of_ble_eq_true rfl) (Nat.le_of_ble_eq_true rfl) hK hP hD hS dX2_seat_12 (by unfold opSeat; rw [if_neg (fun h => by simp only [inRow, Int32.le_iff_toInt_le, Int32.lt_iff_toInt_lt, gl_m1, gl_0, gl_1, gl_2, gl_3, gl_5, gl_6, gl_8, gl_9, gl_10, gl_11, gl_20, gl_40, gl_60] at h c4; omega)]; exact ⟨rfl, ⟨a, ho, bk, pl, pn, pm, nm, co, qu, rfl, rfl, hM, hPs, hlc, hLc⟩⟩)
  · simp only [e1, Classical.not_not] at c4
    refine lv_iload_n hx hb dX2_seat_7 rfl (lv_at hl 2 rfl) ?_
    refine lv_if_ge (tgt := 13) hx hb dX2_seat_8 (by decide) (fun c8 => ?_) (fun c8 => ?_)
    · obtain ⟨r, hr10, rfl⟩ := g_ix (n := 10) rfl c4
      have hrz := hz r hr10
      have hxr : ixN (nI r) = r := ixN_nI (by omega)
      refine lv_iload_n hx hb dX2_seat_13 rfl (lv_at hl 2 rfl) ?_
      refine lv_aload_n hx hb dX2_seat_14 rfl (lv_at hl 0 rfl) ?_
      refine va_get (C := RX2) (T := TX2) (N := 8) (ci := 2) hx hb hts hi_X2 hown hK hP (0) (rfl) rfl 0 (by decide) (hts (.fieldLink RX2 11 "GroupSeats" "rows" "[LGroupSeats$Row;") (by decide +kernel)) (fun _ h9 => h9) rfl dX2_seat_15 ?_
      refine lv_iload_n hx hb dX2_seat_18 rfl (lv_at hl 1 rfl) ?_
      refine g_aldq hx hb hK hP (1) 2 (rfl) rfl (vp_in_nI hr10 (by decide)) (gRf_at hr10 (by decide)) dX2_seat_19 ?_
      refine va_get (C := RX1) (T := TX1) (N := 5) (ci := 1) hx hb hts hi_X1 hown hK hP (2 * r + 4) (hW_row hr10) rfl 1 (by decide) (hts (.fieldLink RX2 51 "GroupSeats$Row" "size" "I") (by decide +kernel)) (fun _ h9 => h9) rfl dX2_seat_20 ?_
      refine lv_icmp_lt (tgt := 29) hx hb dX2_seat_23 (by decide) (fun c23 => ?_) (fun c23 => ?_)
      · obtain ⟨i1, hi1, rfl⟩ := g_ixn (n := z r) (by omega) ⟨c8, c23⟩
        refine lv_aload_n hx hb dX2_seat_29 rfl (lv_at hl 0 rfl) ?_
        refine va_get (C := RX2) (T := TX2) (N := 8) (ci := 2) hx hb hts hi_X2 hown hK hP (0) (rfl) rfl 0 (by decide) (hts (.fieldLink RX2 11 "GroupSeats" "rows" "[LGroupSeats$Row;") (by decide +kernel)) (fun _ h9 => h9) rfl dX2_seat_30 ?_
        refine lv_iload_n hx hb dX2_seat_33 rfl (lv_at hl 1 rfl) ?_
        refine g_aldq hx hb hK hP (1) 2 (rfl) rfl (vp_in_nI hr10 (by decide)) (gRf_at hr10 (by decide)) dX2_seat_34 ?_
        refine va_get (C := RX1) (T := TX1) (N := 5) (ci := 1) hx hb hts hi_X1 hown hK hP (2 * r + 4) (hW_row hr10) rfl 0 (by decide) (hts (.fieldLink RX2 92 "GroupSeats$Row" "owners" "[I") (by decide +kernel)) (fun _ h9 => h9) rfl dX2_seat_35 ?_
        refine lv_iload_n hx hb dX2_seat_38 rfl (lv_at hl 2 rfl) ?_
        refine va_iald hx hb hK hP (2 * r + 1 + 4) 0 (hW_own hr10) rfl (vp_in_nI (show i1 < 20 by omega) (by decide)) dX2_seat_39 ?_
        exact g_iret hx hb hr hlocks (Nat.le_of_ble_eq_true rfl) (Nat.le_of_ble_eq_true rfl) hK hP hD hS dX2_seat_40 (by unfold opSeat; rw [if_pos ⟨inRow_nI hr10, c8⟩, hxr, if_pos c23]; exact ⟨rfl, ⟨a, ho, bk, pl, pn, pm, nm, co, qu, rfl, rfl, hM, hPs, hlc, hLc⟩⟩)
      · refine lv_bipush (v := -2) hx hb dX2_seat_26 (by decide) ?_
        exact g_iret hx hb hr hlocks (Nat.le_of_ble_eq_true rfl) (Nat.le_of_ble_eq_true rfl) hK hP hD hS dX2_seat_28 (by unfold opSeat; rw [if_pos ⟨inRow_nI hr10, c8⟩, hxr, if_neg c23]; exact ⟨rfl, ⟨a, ho, bk, pl, pn, pm, nm, co, qu, rfl, rfl, hM, hPs, hlc, hLc⟩⟩)
    · refine lv_iconst (v := -1) hx hb dX2_seat_11 (by decide) ?_
      exact g_iret hx hb hr hlocks (Nat.le_of_ble_eq_true rfl) (Nat.le_of_ble_eq_true rfl) hK hP hD hS dX2_seat_12 (by unfold opSeat; rw [if_neg (fun h => by simp only [inRow, Int32.le_iff_toInt_le, Int32.lt_iff_toInt_lt, gl_m1, gl_0, gl_1, gl_2, gl_3, gl_5, gl_6, gl_8, gl_9, gl_10, gl_11, gl_20, gl_40, gl_60] at h c4 c8; omega)]; exact ⟨rfl, ⟨a, ho, bk, pl, pn, pm, nm, co, qu, rfl, rfl, hM, hPs, hlc, hLc⟩⟩)
set_option maxHeartbeats 4000000 in
set_option maxRecDepth 100000 in
theorem h_shut (l : Launch) (D : va_G) (K : gCl) (a : Nat → Nat → Nat) (z : Nat → Nat) (sd ho bk : Nat → Int32) (ow : Nat → Nat → Int32) (pl pn pm : Nat → Int32) (nm : Nat → Nat → Int32) (cn : Nat → Int32) (co : Nat) (qu : Nat → Nat) (B mh : Nat) (fl : Int32) (q : List Pty) (li : List Nat) (x : Int32) (sz : Nat) (hz : ∀ i, i < 10 → z i ≤ 20) (hB40 : B ≤ 40) (hq8 : q.length ≤ 8) (hmh6 : mh ≤ 6) (hM : PM qu co) (hPs : PQ pl pn pm nm qu 0 q) (hlc : pl co = nI li.length) (hLc : isL (nm co) li) : gMi l yX2_shut wsX2_shut ({ frames := 14, cells := 0, slots := 0, locals := 420 } : Room) D vwCl (gT K) [.ref (a 0 0), .int x] (hW K a z sd ho bk ow pl pn pm nm cn co qu (nI B) (nI q.length) (nI mh) fl) sz (RP K (a 0 0) (opShut z sd ow cn B q li mh fl x)) 0 0 := by
  refine g_of (cc := cX2_shut) (maxL := 4) (ret := (some .int)) (Qc := fun A => va_Qi (RP K (a 0 0) (opShut z sd ow cn B q li mh fl x)) (gB D vwCl (gT K) A) A) (by decide) rfl (Nat.le_of_ble_eq_true rfl) ?_
  intro p e s m below meth c A ls I hl
  have I0 := I
  obtain ⟨hx, hb, hr, hml, hown, hts, hlocks, hnm, hA, hK, hP, hD, hS⟩ := I
  have hown : s.vm.findClass RX2 = some m.cls := hown
  have hl : lv_has ls 4 [(0, .ref (a 0 0)), (1, .int x)] := hl
  have hi_X2 : ∀ w ∈ u_ws RX2 TX2 8, w ∈ wsX2_shut := by decide +kernel
  have hi_X1 : ∀ w ∈ u_ws RX1 TX1 5, w ∈ wsX2_shut := by decide +kernel
  have hco := hM.2.1
  refine lv_iload_n hx hb dX2_shut_0 rfl (lv_at hl 1 rfl) ?_
  refine g_calli (va_runS (As := [.int _]) (rest := []) ⟨hx, hb, hml, hown, hts⟩ (c_isRow l D K _ _ _) (va_cwS 1 hts gX2_shut_X2_isRow rfl rfl rfl (by decide +kernel) ⟨(Nat.le_of_ble_eq_true rfl), (Nat.le_of_ble_eq_true rfl)⟩) (g_preS hK hP hD) rfl rfl hl.1 rfl (lv_room (Nat.le_of_ble_eq_true rfl)) dX2_shut_1 ⟨Nat.zero_le _, Nat.zero_le _⟩) hD hS hA (fun r1 wv H locs hw hP hD hS => ?_)
  obtain ⟨ew, e1⟩ := hw
  rw [ew] at hP hD
  refine lv_if_ne (tgt := 9) hx hb dX2_shut_4 (by decide) (fun c4 => ?_) (fun c4 => ?_)
  · simp only [e1, Classical.not_not] at c4
    obtain ⟨r, hr10, rfl⟩ := g_ix (n := 10) rfl c4
    have hrz := hz r hr10
    have hxr : ixN (nI r) = r := ixN_nI (by omega)
    refine lv_aload_n hx hb dX2_shut_9 rfl (lv_at hl 0 rfl) ?_
    refine va_get (C := RX2) (T := TX2) (N := 8) (ci := 2) hx hb hts hi_X2 hown hK hP (0) (rfl) rfl 0 (by decide) (hts (.fieldLink RX2 11 "GroupSeats" "rows" "[LGroupSeats$Row;") (by decide +kernel)) (fun _ h9 => h9) rfl dX2_shut_10 ?_
    refine lv_iload_n hx hb dX2_shut_13 rfl (lv_at hl 1 rfl) ?_
    refine g_aldq hx hb hK hP (1) 2 (rfl) rfl (vp_in_nI hr10 (by decide)) (gRf_at hr10 (by decide)) dX2_shut_14 ?_
    refine lv_astore_n (lv' := [(2, .ref _), (0, .ref _), (1, .int _)]) hx hb dX2_shut_15 rfl hl (by decide) rfl (fun ls hl => ?_)
    refine lv_aload_n hx hb dX2_shut_16 rfl (lv_at hl 0 rfl) ?_
    refine g_calli (va_runV (As := []) (rest := []) ⟨hx, hb, hml, hown, hts⟩ (c_isOpen l D K _ (a 1 r) (a 2 r) (2 * r + 4) (nI (z r)) (sd r) (ho r) (bk r) _ (hW_row hr10)) (cwV 0 hts gX2_shut_X1_isOpen rfl rfl rfl (by decide +kernel) ⟨(Nat.le_of_ble_eq_true rfl), (Nat.le_of_ble_eq_true rfl)⟩) (g_preV hK hP hD (ci := 1) (q0 := 2 * r + 4) rfl (hW_row hr10)) rfl rfl hl.1 rfl (lv_room (Nat.le_of_ble_eq_true rfl)) dX2_shut_17 ⟨Nat.zero_le _, Nat.zero_le _⟩) hD hS hA (fun r17 wv H locs hw hP hD hS => ?_)
    obtain ⟨ew, e17⟩ := hw
    rw [ew] at hP hD
    refine lv_if_eq (tgt := 36) hx hb dX2_shut_20 (by decide) (fun c20 => ?_) (fun c20 => ?_)
    · have hzr : z r = 0 := Classical.not_not.mp (fun h0 => (e17.mp c20) (by rw [show (0 : Int32) = nI 0 from rfl]; exact nI_lt (by omega) (by omega)))
      refine lv_bipush (v := -2) hx hb dX2_shut_36 (by decide) ?_
      exact g_iret hx hb hr hlocks (Nat.le_of_ble_eq_true rfl) (Nat.le_of_ble_eq_true rfl) hK hP hD hS dX2_shut_38 (by unfold opShut; rw [if_pos (inRow_nI hr10), hxr, if_neg (fun h => h.1 hzr)]; exact ⟨rfl, ⟨a, ho, bk, pl, pn, pm, nm, co, qu, rfl, rfl, hM, hPs, hlc, hLc⟩⟩)
    · have hzr : z r ≠ 0 := fun h0 => c20 (e17.mpr (by rw [h0]; decide))
      refine lv_aload_n hx hb dX2_shut_23 rfl (lv_at hl 0 rfl) ?_
      refine lv_bipush (v := -8) hx hb dX2_shut_24 (by decide) ?_
      refine g_calli (va_runV (As := [.int _]) (rest := []) ⟨hx, hb, hml, hown, hts⟩ (c_seatsOf l D K _ (a 1 r) (a 2 r) (2 * r + 4) (2 * r + 1 + 4) (z r) (sd r) (ho r) (bk r) (ow r) _ _ (hz r hr10) (hW_row hr10) (hW_own hr10)) (cwV 1 hts gX2_shut_X1_seatsOf rfl rfl rfl (by decide +kernel) ⟨(Nat.le_of_ble_eq_true rfl), (Nat.le_of_ble_eq_true rfl)⟩) (g_preV hK hP hD (ci := 1) (q0 := 2 * r + 4) rfl (hW_row hr10)) rfl rfl hl.1 rfl (lv_room (Nat.le_of_ble_eq_true rfl)) dX2_shut_26 ⟨Nat.zero_le _, Nat.zero_le _⟩) hD hS hA (fun r26 wv H locs hw hP hD hS => ?_)
      obtain ⟨ew, er⟩ := hw
      rw [ew] at hP hD
      subst er
      refine lv_aload_n hx hb dX2_shut_29 rfl (lv_at hl 0 rfl) ?_
      refine va_get (C := RX1) (T := TX1) (N := 5) (ci := 1) hx hb hts hi_X1 hown hK hP (2 * r + 4) (hW_row hr10) rfl 1 (by decide) (hts (.fieldLink RX2 51 "GroupSeats$Row" "size" "I") (by decide +kernel)) (fun _ h9 => h9) rfl dX2_shut_30 ?_
      refine lv_icmp_ge (tgt := 39) hx hb dX2_shut_33 (by decide) (fun c33 => ?_) (fun c33 => ?_)
      · refine lv_aload_n hx hb dX2_shut_39 rfl (lv_at hl 0 rfl) ?_
        refine va_get (C := RX1) (T := TX1) (N := 5) (ci := 1) hx hb hts hi_X1 hown hK hP (2 * r + 4) (hW_row hr10) rfl 1 (by decide) (hts (.fieldLink RX2 51 "GroupSeats$Row" "size" "I") (by decide +kernel)) (fun _ h9 => h9) rfl dX2_shut_40 ?_
        refine lv_istore_n (lv' := [(3, .int _), (2, .ref _), (0, .ref _), (1, .int _)]) hx hb dX2_shut_43 rfl hl (by decide) rfl (fun ls hl => ?_)
        refine lv_aload_n hx hb dX2_shut_44 rfl (lv_at hl 1 rfl) ?_
        refine lv_iconst (v := 0) hx hb dX2_shut_45 (by decide) ?_
        refine va_put (C := RX1) (T := TX1) (N := 5) (ci := 1) (ty := .int) hx hb hts hi_X1 tyX1 tyX1_ok nmX1 hown hK hP hD hS (2 * r + 4) (hW_row hr10) rfl 1 (by decide) (hts (.fieldLink RX2 51 "GroupSeats$Row" "size" "I") (by decide +kernel)) (fun _ h9 => h9) rfl (by decide +kernel) rfl rfl (Nat.le_of_ble_eq_true rfl) dX2_shut_46 (fun H locs hP hD hS => ?_)
        have hP : va_P D vwCl ((hW K a z sd ho bk ow pl pn pm nm cn co qu (nI B) (nI q.length) (nI mh) fl).set (2 * r + 4) (a 1 r, gRow (a 2 r) (nI 0) (sd r) (ho r) (bk r))) H := hP
        have hD : va_D A ((hW K a z sd ho bk ow pl pn pm nm cn co qu (nI B) (nI q.length) (nI mh) fl).set (2 * r + 4) (a 1 r, gRow (a 2 r) (nI 0) (sd r) (ho r) (bk r))) := hD
        rw [hW_setZ hr10] at hP hD
        refine lv_iload_n hx hb dX2_shut_49 rfl (lv_at hl 0 rfl) ?_
        exact g_iret hx hb hr hlocks (Nat.le_of_ble_eq_true rfl) (Nat.le_of_ble_eq_true rfl) hK hP hD hS dX2_shut_50 (by have hcl := cntV_le (ow r) (-8) (z r); have hc2 := (nI_leI (by omega) (by omega)).mp c33; unfold opShut; rw [if_pos (inRow_nI hr10), hxr, if_pos ⟨hzr, by omega⟩]; exact ⟨rfl, ⟨a, ho, bk, pl, pn, pm, nm, co, qu, rfl, rfl, hM, hPs, hlc, hLc⟩⟩)
      · refine lv_bipush (v := -2) hx hb dX2_shut_36 (by decide) ?_
        exact g_iret hx hb hr hlocks (Nat.le_of_ble_eq_true rfl) (Nat.le_of_ble_eq_true rfl) hK hP hD hS dX2_shut_38 (by unfold opShut; rw [if_pos (inRow_nI hr10), hxr, if_neg (fun h => c33 (by rw [h.2]; exact nI_le (Nat.le_refl _) (by omega)))]; exact ⟨rfl, ⟨a, ho, bk, pl, pn, pm, nm, co, qu, rfl, rfl, hM, hPs, hlc, hLc⟩⟩)
  · simp only [e1, Classical.not_not] at c4
    refine lv_iconst (v := -1) hx hb dX2_shut_7 (by decide) ?_
    exact g_iret hx hb hr hlocks (Nat.le_of_ble_eq_true rfl) (Nat.le_of_ble_eq_true rfl) hK hP hD hS dX2_shut_8 (by unfold opShut; rw [if_neg (fun h => by simp only [inRow, Int32.le_iff_toInt_le, Int32.lt_iff_toInt_lt, gl_m1, gl_0, gl_1, gl_2, gl_3, gl_5, gl_6, gl_8, gl_9, gl_10, gl_11, gl_20, gl_40, gl_60] at h c4; omega)]; exact ⟨rfl, ⟨a, ho, bk, pl, pn, pm, nm, co, qu, rfl, rfl, hM, hPs, hlc, hLc⟩⟩)
set_option maxHeartbeats 4000000 in
set_option maxRecDepth 100000 in
theorem h_has (l : Launch) (D : va_G) (K : gCl) (a : Nat → Nat → Nat) (z : Nat → Nat) (sd ho bk : Nat → Int32) (ow : Nat → Nat → Int32) (pl pn pm : Nat → Int32) (nm : Nat → Nat → Int32) (cn : Nat → Int32) (co : Nat) (qu : Nat → Nat) (B mh : Nat) (fl : Int32) (q : List Pty) (li : List Nat) (b x : Int32) (sz : Nat) (hz : ∀ i, i < 10 → z i ≤ 20) (hB40 : B ≤ 40) (hq8 : q.length ≤ 8) (hmh6 : mh ≤ 6) (hM : PM qu co) (hPs : PQ pl pn pm nm qu 0 q) (hlc : pl co = nI li.length) (hLc : isL (nm co) li) : gMi l yX2_has wsX2_has ({ frames := 14, cells := 0, slots := 0, locals := 420 } : Room) D vwCl (gT K) [.ref (a 0 0), .int b, .int x] (hW K a z sd ho bk ow pl pn pm nm cn co qu (nI B) (nI q.length) (nI mh) fl) sz (RP K (a 0 0) (opHas z sd ow cn B q li mh fl b x)) 0 0 := by
  refine g_of (cc := cX2_has) (maxL := 3) (ret := (some .int)) (Qc := fun A => va_Qi (RP K (a 0 0) (opHas z sd ow cn B q li mh fl b x)) (gB D vwCl (gT K) A) A) (by decide) rfl (Nat.le_of_ble_eq_true rfl) ?_
  intro p e s m below meth c A ls I hl
  have I0 := I
  obtain ⟨hx, hb, hr, hml, hown, hts, hlocks, hnm, hA, hK, hP, hD, hS⟩ := I
  have hown : s.vm.findClass RX2 = some m.cls := hown
  have hl : lv_has ls 3 [(0, .ref (a 0 0)), (1, .int b), (2, .int x)] := hl
  have hi_X2 : ∀ w ∈ u_ws RX2 TX2 8, w ∈ wsX2_has := by decide +kernel
  have hi_X1 : ∀ w ∈ u_ws RX1 TX1 5, w ∈ wsX2_has := by decide +kernel
  have hco := hM.2.1
  refine lv_aload_n hx hb dX2_has_0 rfl (lv_at hl 0 rfl) ?_
  refine lv_iload_n hx hb dX2_has_1 rfl (lv_at hl 1 rfl) ?_
  refine g_calli (va_runV (As := [.int _]) (rest := []) ⟨hx, hb, hml, hown, hts⟩ (c_isBooking l D K _ (a 0 0) (a 0 1) (a 0 2) (a 0 3) (a 3 co) (nI B) (nI q.length) (nI mh) fl _ _ rfl) (cwV 1 hts gX2_has_X2_isBooking rfl rfl rfl (by decide +kernel) ⟨(Nat.le_of_ble_eq_true rfl), (Nat.le_of_ble_eq_true rfl)⟩) (g_preV hK hP hD (ci := 2) (q0 := 0) rfl (rfl)) rfl rfl hl.1 rfl (lv_room (Nat.le_of_ble_eq_true rfl)) dX2_has_2 ⟨Nat.zero_le _, Nat.zero_le _⟩) hD hS hA (fun r2 wv H locs hw hP hD hS => ?_)
  obtain ⟨ew, e2⟩ := hw
  rw [ew] at hP hD
  refine lv_if_eq (tgt := 15) hx hb dX2_has_5 (by decide) (fun c5 => ?_) (fun c5 => ?_)
  · simp only [e2, Classical.not_not] at c5
    refine lv_iconst (v := -1) hx hb dX2_has_15 (by decide) ?_
    exact g_iret hx hb hr hlocks (Nat.le_of_ble_eq_true rfl) (Nat.le_of_ble_eq_true rfl) hK hP hD hS dX2_has_16 (by unfold opHas; rw [if_neg (fun h => c5 h.1)]; exact ⟨rfl, ⟨a, ho, bk, pl, pn, pm, nm, co, qu, rfl, rfl, hM, hPs, hlc, hLc⟩⟩)
  · simp only [e2, Classical.not_not] at c5
    refine lv_iload_n hx hb dX2_has_8 rfl (lv_at hl 2 rfl) ?_
    refine g_calli (va_runS (As := [.int _]) (rest := []) ⟨hx, hb, hml, hown, hts⟩ (c_isRow l D K _ _ _) (va_cwS 1 hts gX2_has_X2_isRow rfl rfl rfl (by decide +kernel) ⟨(Nat.le_of_ble_eq_true rfl), (Nat.le_of_ble_eq_true rfl)⟩) (g_preS hK hP hD) rfl rfl hl.1 rfl (lv_room (Nat.le_of_ble_eq_true rfl)) dX2_has_9 ⟨Nat.zero_le _, Nat.zero_le _⟩) hD hS hA (fun r9 wv H locs hw hP hD hS => ?_)
    obtain ⟨ew, e9⟩ := hw
    rw [ew] at hP hD
    refine lv_if_ne (tgt := 17) hx hb dX2_has_12 (by decide) (fun c12 => ?_) (fun c12 => ?_)
    · simp only [e9, Classical.not_not] at c12
      obtain ⟨r, hr10, rfl⟩ := g_ix (n := 10) rfl c12
      have hrz := hz r hr10
      have hxr : ixN (nI r) = r := ixN_nI (by omega)
      refine lv_aload_n hx hb dX2_has_17 rfl (lv_at hl 0 rfl) ?_
      refine va_get (C := RX2) (T := TX2) (N := 8) (ci := 2) hx hb hts hi_X2 hown hK hP (0) (rfl) rfl 0 (by decide) (hts (.fieldLink RX2 11 "GroupSeats" "rows" "[LGroupSeats$Row;") (by decide +kernel)) (fun _ h9 => h9) rfl dX2_has_18 ?_
      refine lv_iload_n hx hb dX2_has_21 rfl (lv_at hl 2 rfl) ?_
      refine g_aldq hx hb hK hP (1) 2 (rfl) rfl (vp_in_nI hr10 (by decide)) (gRf_at hr10 (by decide)) dX2_has_22 ?_
      refine lv_iload_n hx hb dX2_has_23 rfl (lv_at hl 1 rfl) ?_
      refine g_calli (va_runV (As := [.int _]) (rest := []) ⟨hx, hb, hml, hown, hts⟩ (c_seatsOf l D K _ (a 1 r) (a 2 r) (2 * r + 4) (2 * r + 1 + 4) (z r) (sd r) (ho r) (bk r) (ow r) _ _ (hz r hr10) (hW_row hr10) (hW_own hr10)) (cwV 1 hts gX2_has_X1_seatsOf rfl rfl rfl (by decide +kernel) ⟨(Nat.le_of_ble_eq_true rfl), (Nat.le_of_ble_eq_true rfl)⟩) (g_preV hK hP hD (ci := 1) (q0 := 2 * r + 4) rfl (hW_row hr10)) rfl rfl hl.1 rfl (lv_room (Nat.le_of_ble_eq_true rfl)) dX2_has_24 ⟨Nat.zero_le _, Nat.zero_le _⟩) hD hS hA (fun r24 wv H locs hw hP hD hS => ?_)
      obtain ⟨ew, er⟩ := hw
      rw [ew] at hP hD
      subst er
      exact g_iret hx hb hr hlocks (Nat.le_of_ble_eq_true rfl) (Nat.le_of_ble_eq_true rfl) hK hP hD hS dX2_has_27 (by unfold opHas; rw [if_pos ⟨c5, inRow_nI hr10⟩, hxr]; exact ⟨rfl, ⟨a, ho, bk, pl, pn, pm, nm, co, qu, rfl, rfl, hM, hPs, hlc, hLc⟩⟩)
    · simp only [e9, Classical.not_not] at c12
      refine lv_iconst (v := -1) hx hb dX2_has_15 (by decide) ?_
      exact g_iret hx hb hr hlocks (Nat.le_of_ble_eq_true rfl) (Nat.le_of_ble_eq_true rfl) hK hP hD hS dX2_has_16 (by unfold opHas; rw [if_neg (fun h => c12 h.2)]; exact ⟨rfl, ⟨a, ho, bk, pl, pn, pm, nm, co, qu, rfl, rfl, hM, hPs, hlc, hLc⟩⟩)
theorem g_sw (x : Int32) (n : Nat) (hn : n < 2 ^ 31) : (x.toInt < 0 ∨ (n : Int) < x.toInt) ∨ ∃ j : Nat, j ≤ n ∧ x = nI j := by
  by_cases h0 : x.toInt < 0
  · exact Or.inl (Or.inl h0)
  · by_cases h1 : (n : Int) < x.toInt
    · exact Or.inl (Or.inr h1)
    · obtain ⟨j, hj, rfl⟩ := nI_of (x := x) (by rw [Int32.lt_iff_toInt_lt, gl_0]; exact h0)
      rw [nI_toInt hj] at h1
      exact Or.inr ⟨j, by omega, rfl⟩
set_option maxHeartbeats 4000000 in
set_option maxRecDepth 100000 in
theorem h_about (l : Launch) (D : va_G) (K : gCl) (a : Nat → Nat → Nat) (z : Nat → Nat) (sd ho bk : Nat → Int32) (ow : Nat → Nat → Int32) (pl pn pm : Nat → Int32) (nm : Nat → Nat → Int32) (cn : Nat → Int32) (co : Nat) (qu : Nat → Nat) (B mh : Nat) (fl : Int32) (q : List Pty) (li : List Nat) (x k : Int32) (sz : Nat) (hz : ∀ i, i < 10 → z i ≤ 20) (hB40 : B ≤ 40) (hq8 : q.length ≤ 8) (hmh6 : mh ≤ 6) (hM : PM qu co) (hPs : PQ pl pn pm nm qu 0 q) (hlc : pl co = nI li.length) (hLc : isL (nm co) li) : gMi l yX2_about wsX2_about ({ frames := 14, cells := 0, slots := 0, locals := 420 } : Room) D vwCl (gT K) [.ref (a 0 0), .int x, .int k] (hW K a z sd ho bk ow pl pn pm nm cn co qu (nI B) (nI q.length) (nI mh) fl) sz (fun _ w1 => CW K (a 0 0) (z, sd, ow, cn, B, q, li, mh, fl) w1) 0 0 := by
  refine g_of (cc := cX2_about) (maxL := 4) (ret := (some .int)) (Qc := fun A => va_Qi (fun _ w1 => CW K (a 0 0) (z, sd, ow, cn, B, q, li, mh, fl) w1) (gB D vwCl (gT K) A) A) (by decide) rfl (Nat.le_of_ble_eq_true rfl) ?_
  intro p e s m below meth c A ls I hl
  have I0 := I
  obtain ⟨hx, hb, hr, hml, hown, hts, hlocks, hnm, hA, hK, hP, hD, hS⟩ := I
  have hown : s.vm.findClass RX2 = some m.cls := hown
  have hl : lv_has ls 4 [(0, .ref (a 0 0)), (1, .int x), (2, .int k)] := hl
  have hi_X2 : ∀ w ∈ u_ws RX2 TX2 8, w ∈ wsX2_about := by decide +kernel
  have hi_X1 : ∀ w ∈ u_ws RX1 TX1 5, w ∈ wsX2_about := by decide +kernel
  have hco := hM.2.1
  refine lv_iload_n hx hb dX2_about_0 rfl (lv_at hl 1 rfl) ?_
  refine g_calli (va_runS (As := [.int _]) (rest := []) ⟨hx, hb, hml, hown, hts⟩ (c_isRow l D K _ _ _) (va_cwS 1 hts gX2_about_X2_isRow rfl rfl rfl (by decide +kernel) ⟨(Nat.le_of_ble_eq_true rfl), (Nat.le_of_ble_eq_true rfl)⟩) (g_preS hK hP hD) rfl rfl hl.1 rfl (lv_room (Nat.le_of_ble_eq_true rfl)) dX2_about_1 ⟨Nat.zero_le _, Nat.zero_le _⟩) hD hS hA (fun r1 wv H locs hw hP hD hS => ?_)
  obtain ⟨ew, e1⟩ := hw
  rw [ew] at hP hD
  refine lv_if_eq (tgt := 16) hx hb dX2_about_4 (by decide) (fun c4 => ?_) (fun c4 => ?_)
  · simp only [e1, Classical.not_not] at c4
    refine lv_iconst (v := -1) hx hb dX2_about_16 (by decide) ?_
    exact g_iret hx hb hr hlocks (Nat.le_of_ble_eq_true rfl) (Nat.le_of_ble_eq_true rfl) hK hP hD hS dX2_about_17 (⟨a, ho, bk, pl, pn, pm, nm, co, qu, rfl, rfl, hM, hPs, hlc, hLc⟩)
  · simp only [e1, Classical.not_not] at c4
    refine lv_iload_n hx hb dX2_about_7 rfl (lv_at hl 2 rfl) ?_
    refine lv_if_lt (tgt := 16) hx hb dX2_about_8 (by decide) (fun c8 => ?_) (fun c8 => ?_)
    · refine lv_iconst (v := -1) hx hb dX2_about_16 (by decide) ?_
      exact g_iret hx hb hr hlocks (Nat.le_of_ble_eq_true rfl) (Nat.le_of_ble_eq_true rfl) hK hP hD hS dX2_about_17 (⟨a, ho, bk, pl, pn, pm, nm, co, qu, rfl, rfl, hM, hPs, hlc, hLc⟩)
    · refine lv_iload_n hx hb dX2_about_11 rfl (lv_at hl 2 rfl) ?_
      refine lv_iconst (v := 3) hx hb dX2_about_12 (by decide) ?_
      refine lv_icmp_le (tgt := 18) hx hb dX2_about_13 (by decide) (fun c13 => ?_) (fun c13 => ?_)
      · obtain ⟨r, hr10, rfl⟩ := g_ix (n := 10) rfl c4
        have hrz := hz r hr10
        have hxr : ixN (nI r) = r := ixN_nI (by omega)
        refine lv_aload_n hx hb dX2_about_18 rfl (lv_at hl 0 rfl) ?_
        refine va_get (C := RX2) (T := TX2) (N := 8) (ci := 2) hx hb hts hi_X2 hown hK hP (0) (rfl) rfl 0 (by decide) (hts (.fieldLink RX2 11 "GroupSeats" "rows" "[LGroupSeats$Row;") (by decide +kernel)) (fun _ h9 => h9) rfl dX2_about_19 ?_
        refine lv_iload_n hx hb dX2_about_22 rfl (lv_at hl 1 rfl) ?_
        refine g_aldq hx hb hK hP (1) 2 (rfl) rfl (vp_in_nI hr10 (by decide)) (gRf_at hr10 (by decide)) dX2_about_23 ?_
        refine lv_astore_n (lv' := [(3, .ref _), (0, .ref _), (1, .int _), (2, .int _)]) hx hb dX2_about_24 rfl hl (by decide) rfl (fun ls hl => ?_)
        refine lv_aload_n hx hb dX2_about_25 rfl (lv_at hl 0 rfl) ?_
        refine g_calli (va_runV (As := []) (rest := []) ⟨hx, hb, hml, hown, hts⟩ (c_isOpen l D K _ (a 1 r) (a 2 r) (2 * r + 4) (nI (z r)) (sd r) (ho r) (bk r) _ (hW_row hr10)) (cwV 0 hts gX2_about_X1_isOpen rfl rfl rfl (by decide +kernel) ⟨(Nat.le_of_ble_eq_true rfl), (Nat.le_of_ble_eq_true rfl)⟩) (g_preV hK hP hD (ci := 1) (q0 := 2 * r + 4) rfl (hW_row hr10)) rfl rfl hl.1 rfl (lv_room (Nat.le_of_ble_eq_true rfl)) dX2_about_26 ⟨Nat.zero_le _, Nat.zero_le _⟩) hD hS hA (fun r26 wv H locs hw hP hD hS => ?_)
        obtain ⟨ew, e26⟩ := hw
        rw [ew] at hP hD
        refine lv_if_ne (tgt := 35) hx hb dX2_about_29 (by decide) (fun c29 => ?_) (fun c29 => ?_)
        · refine lv_iload_n hx hb dX2_about_35 rfl (lv_at hl 3 rfl) ?_
          rcases g_sw k 2 (by decide) with hk | ⟨i, hi, rfl⟩
          · refine lv_tableOut (tgt := 81) hx hb dX2_about_36 hk (by decide) ?_
            refine lv_aload_n hx hb dX2_about_81 rfl (lv_at hl 0 rfl) ?_
            refine va_get (C := RX1) (T := TX1) (N := 5) (ci := 1) hx hb hts hi_X1 hown hK hP (2 * r + 4) (hW_row hr10) rfl 1 (by decide) (hts (.fieldLink RX2 51 "GroupSeats$Row" "size" "I") (by decide +kernel)) (fun _ h9 => h9) rfl dX2_about_82 ?_
            exact g_iret hx hb hr hlocks (Nat.le_of_ble_eq_true rfl) (Nat.le_of_ble_eq_true rfl) hK hP hD hS dX2_about_85 (⟨a, ho, bk, pl, pn, pm, nm, co, qu, rfl, rfl, hM, hPs, hlc, hLc⟩)
          · rcases (show i = 0 ∨ i = 1 ∨ i = 2 by omega) with rfl | rfl | rfl
            · refine lv_tableIn (off := 28) (tgt := 64) hx hb dX2_about_36 (by decide) (by decide) rfl (by decide) ?_
              refine lv_aload_n hx hb dX2_about_64 rfl (lv_at hl 0 rfl) ?_
              refine lv_bipush (v := -8) hx hb dX2_about_65 (by decide) ?_
              refine g_calli (va_runV (As := [.int _]) (rest := []) ⟨hx, hb, hml, hown, hts⟩ (c_seatsOf l D K _ (a 1 r) (a 2 r) (2 * r + 4) (2 * r + 1 + 4) (z r) (sd r) (ho r) (bk r) (ow r) _ _ (hz r hr10) (hW_row hr10) (hW_own hr10)) (cwV 1 hts gX2_about_X1_seatsOf rfl rfl rfl (by decide +kernel) ⟨(Nat.le_of_ble_eq_true rfl), (Nat.le_of_ble_eq_true rfl)⟩) (g_preV hK hP hD (ci := 1) (q0 := 2 * r + 4) rfl (hW_row hr10)) rfl rfl hl.1 rfl (lv_room (Nat.le_of_ble_eq_true rfl)) dX2_about_67 ⟨Nat.zero_le _, Nat.zero_le _⟩) hD hS hA (fun r67 wv H locs hw hP hD hS => ?_)
              obtain ⟨ew, er⟩ := hw
              rw [ew] at hP hD
              subst er
              exact g_iret hx hb hr hlocks (Nat.le_of_ble_eq_true rfl) (Nat.le_of_ble_eq_true rfl) hK hP hD hS dX2_about_70 (⟨a, ho, bk, pl, pn, pm, nm, co, qu, rfl, rfl, hM, hPs, hlc, hLc⟩)
            · refine lv_tableIn (off := 35) (tgt := 71) hx hb dX2_about_36 (by decide) (by decide) rfl (by decide) ?_
              refine lv_aload_n hx hb dX2_about_71 rfl (lv_at hl 0 rfl) ?_
              refine va_get (C := RX1) (T := TX1) (N := 5) (ci := 1) hx hb hts hi_X1 hown hK hP (2 * r + 4) (hW_row hr10) rfl 3 (by decide) (hts (.fieldLink RX2 95 "GroupSeats$Row" "holds" "I") (by decide +kernel)) (fun _ h9 => h9) rfl dX2_about_72 ?_
              exact g_iret hx hb hr hlocks (Nat.le_of_ble_eq_true rfl) (Nat.le_of_ble_eq_true rfl) hK hP hD hS dX2_about_75 (⟨a, ho, bk, pl, pn, pm, nm, co, qu, rfl, rfl, hM, hPs, hlc, hLc⟩)
            · refine lv_tableIn (off := 40) (tgt := 76) hx hb dX2_about_36 (by decide) (by decide) rfl (by decide) ?_
              refine lv_aload_n hx hb dX2_about_76 rfl (lv_at hl 0 rfl) ?_
              refine va_get (C := RX1) (T := TX1) (N := 5) (ci := 1) hx hb hts hi_X1 hown hK hP (2 * r + 4) (hW_row hr10) rfl 4 (by decide) (hts (.fieldLink RX2 98 "GroupSeats$Row" "backs" "I") (by decide +kernel)) (fun _ h9 => h9) rfl dX2_about_77 ?_
              exact g_iret hx hb hr hlocks (Nat.le_of_ble_eq_true rfl) (Nat.le_of_ble_eq_true rfl) hK hP hD hS dX2_about_80 (⟨a, ho, bk, pl, pn, pm, nm, co, qu, rfl, rfl, hM, hPs, hlc, hLc⟩)
        · refine lv_bipush (v := -2) hx hb dX2_about_32 (by decide) ?_
          exact g_iret hx hb hr hlocks (Nat.le_of_ble_eq_true rfl) (Nat.le_of_ble_eq_true rfl) hK hP hD hS dX2_about_34 (⟨a, ho, bk, pl, pn, pm, nm, co, qu, rfl, rfl, hM, hPs, hlc, hLc⟩)
      · refine lv_iconst (v := -1) hx hb dX2_about_16 (by decide) ?_
        exact g_iret hx hb hr hlocks (Nat.le_of_ble_eq_true rfl) (Nat.le_of_ble_eq_true rfl) hK hP hD hS dX2_about_17 (⟨a, ho, bk, pl, pn, pm, nm, co, qu, rfl, rfl, hM, hPs, hlc, hLc⟩)
set_option maxHeartbeats 4000000 in
set_option maxRecDepth 100000 in
theorem h_waiting (l : Launch) (D : va_G) (K : gCl) (a : Nat → Nat → Nat) (z : Nat → Nat) (sd ho bk : Nat → Int32) (ow : Nat → Nat → Int32) (pl pn pm : Nat → Int32) (nm : Nat → Nat → Int32) (cn : Nat → Int32) (co : Nat) (qu : Nat → Nat) (B mh : Nat) (fl : Int32) (q : List Pty) (li : List Nat) (x : Int32) (sz : Nat) (hz : ∀ i, i < 10 → z i ≤ 20) (hB40 : B ≤ 40) (hq8 : q.length ≤ 8) (hmh6 : mh ≤ 6) (hM : PM qu co) (hPs : PQ pl pn pm nm qu 0 q) (hlc : pl co = nI li.length) (hLc : isL (nm co) li) : gMi l yX2_waiting wsX2_waiting ({ frames := 14, cells := 0, slots := 0, locals := 420 } : Room) D vwCl (gT K) [.ref (a 0 0), .int x] (hW K a z sd ho bk ow pl pn pm nm cn co qu (nI B) (nI q.length) (nI mh) fl) sz (RP K (a 0 0) (opWaiting z sd ow cn B q li mh fl x)) 0 0 := by
  refine g_of (cc := cX2_waiting) (maxL := 2) (ret := (some .int)) (Qc := fun A => va_Qi (RP K (a 0 0) (opWaiting z sd ow cn B q li mh fl x)) (gB D vwCl (gT K) A) A) (by decide) rfl (Nat.le_of_ble_eq_true rfl) ?_
  intro p e s m below meth c A ls I hl
  have I0 := I
  obtain ⟨hx, hb, hr, hml, hown, hts, hlocks, hnm, hA, hK, hP, hD, hS⟩ := I
  have hown : s.vm.findClass RX2 = some m.cls := hown
  have hl : lv_has ls 2 [(0, .ref (a 0 0)), (1, .int x)] := hl
  have hi_X2 : ∀ w ∈ u_ws RX2 TX2 8, w ∈ wsX2_waiting := by decide +kernel
  have hi_X0 : ∀ w ∈ u_ws RX0 TX0 4, w ∈ wsX2_waiting := by decide +kernel
  have hco := hM.2.1
  refine lv_aload_n hx hb dX2_waiting_0 rfl (lv_at hl 0 rfl) ?_
  refine lv_iload_n hx hb dX2_waiting_1 rfl (lv_at hl 1 rfl) ?_
  refine g_calli (va_runV (As := [.int _]) (rest := []) ⟨hx, hb, hml, hown, hts⟩ (c_isWaiting l D K _ (a 0 0) (a 0 1) (a 0 2) (a 0 3) (a 3 co) (nI B) (nI q.length) (nI mh) fl _ _ rfl) (cwV 1 hts gX2_waiting_X2_isWaiting rfl rfl rfl (by decide +kernel) ⟨(Nat.le_of_ble_eq_true rfl), (Nat.le_of_ble_eq_true rfl)⟩) (g_preV hK hP hD (ci := 2) (q0 := 0) rfl (rfl)) rfl rfl hl.1 rfl (lv_room (Nat.le_of_ble_eq_true rfl)) dX2_waiting_2 ⟨Nat.zero_le _, Nat.zero_le _⟩) hD hS hA (fun r2 wv H locs hw hP hD hS => ?_)
  obtain ⟨ew, e2⟩ := hw
  rw [ew] at hP hD
  refine lv_if_eq (tgt := 20) hx hb dX2_waiting_5 (by decide) (fun c5 => ?_) (fun c5 => ?_)
  · simp only [e2, Classical.not_not] at c5
    refine lv_bipush (v := -8) hx hb dX2_waiting_20 (by decide) ?_
    exact g_iret hx hb hr hlocks (Nat.le_of_ble_eq_true rfl) (Nat.le_of_ble_eq_true rfl) hK hP hD hS dX2_waiting_22 (by unfold opWaiting; rw [if_neg c5]; exact ⟨rfl, ⟨a, ho, bk, pl, pn, pm, nm, co, qu, rfl, rfl, hM, hPs, hlc, hLc⟩⟩)
  · simp only [e2, Classical.not_not] at c5
    obtain ⟨k0, hk0, rfl⟩ := g_ixn (n := q.length) (by omega) c5
    have hR := hPs k0 q[k0] (List.getElem?_eq_getElem hk0)
    rw [Nat.zero_add] at hR
    have hxk : ixN (nI k0) = k0 := ixN_nI (by omega)
    have hgd : q.getD k0 (0, []) = q[k0] := by simp [List.getD_eq_getElem?_getD, hk0]
    refine lv_aload_n hx hb dX2_waiting_8 rfl (lv_at hl 0 rfl) ?_
    refine va_get (C := RX2) (T := TX2) (N := 8) (ci := 2) hx hb hts hi_X2 hown hK hP (0) (rfl) rfl 2 (by decide) (hts (.fieldLink RX2 21 "GroupSeats" "queue" "[LGroupSeats$Party;") (by decide +kernel)) (fun _ h9 => h9) rfl dX2_waiting_9 ?_
    refine lv_iload_n hx hb dX2_waiting_12 rfl (lv_at hl 1 rfl) ?_
    refine g_aldq hx hb hK hP (3) 3 (rfl) rfl (vp_in_nI (show k0 < 8 by omega) (by decide)) (gRf_at (show k0 < 8 by omega) (by decide)) dX2_waiting_13 ?_
    refine va_get (C := RX0) (T := TX0) (N := 4) (ci := 0) hx hb hts hi_X0 hown hK hP (2 * (qu k0) + 20 + 4) (hW_par (hM.1 k0 (by omega))) rfl 2 (by decide) (hts (.fieldLink RX2 69 "GroupSeats$Party" "size" "I") (by decide +kernel)) (fun _ h9 => h9) rfl dX2_waiting_14 ?_
    refine lv_goto (tgt := 22) hx hb dX2_waiting_17 (by decide) ?_
    exact g_iret hx hb hr hlocks (Nat.le_of_ble_eq_true rfl) (Nat.le_of_ble_eq_true rfl) hK hP hD hS dX2_waiting_22 (by unfold opWaiting; rw [if_pos c5, hxk, hgd, hR.2.1]; exact ⟨rfl, ⟨a, ho, bk, pl, pn, pm, nm, co, qu, rfl, rfl, hM, hPs, hlc, hLc⟩⟩)
set_option maxHeartbeats 4000000 in
set_option maxRecDepth 100000 in
theorem lp_openRows {p : Program} {l : Launch} {e : Env} {s : State} {m : MethodId} {args : Array Value} {below : List Frame} {meth : Method} {c : Code} {A : Nat → Prop} {D : va_G} {K : gCl} {ws0 : va_W} {a : Nat → Nat → Nat} {z : Nat → Nat} {sd ho bk : Nat → Int32} {ow : Nat → Nat → Int32} {pl pn pm : Nat → Int32} {nm : Nat → Nat → Int32} {cn : Nat → Int32} {co : Nat} {qu : Nat → Nat} {B wt mh fl : Int32} (hz : ∀ i, i < 10 → z i ≤ 20)
    (I : gIn p s m meth c A yX2_openRows wsX2_openRows cX2_openRows 3 (some .int) args D vwCl (gT K) ws0)  :
    ∀ (k : Nat) (r : Nat) (H : Heap) (locs : List Loc), r + k = 10 → va_P D vwCl (hW K a z sd ho bk ow pl pn pm nm cn co qu B wt mh fl) H → va_D A (hW K a z sd ho bk ow pl pn pm nm cn co qu B wt mh fl) → va_S A s.heap H locs →
    ∀ (ls : Array Slot), lv_has ls 3 [(2, .int (nI r)), (1, .int (nI (cntO z r))), (0, .ref (a 0 0))] →
    W p l e ({ frames := 1, cells := 0, slots := 0, locals := 40 } : Room) s m args below meth c H locs 0 0 (MQ below (va_Qi (fun r1 w1 => w1 = hW K a z sd ho bk ow pl pn pm nm cn co qu B wt mh fl ∧ r1 = nI (cntO z 10)) (gB D vwCl (gT K) A) A) args s 0 0 A) (F0 m 4 ls []) := by
  have I0 := I
  obtain ⟨hx, hb, hr, hml, hown, hts, hlocks, hnm, hA, hK, -, -, -⟩ := I
  have hown : s.vm.findClass RX2 = some m.cls := hown
  have hi_X2 : ∀ w ∈ u_ws RX2 TX2 8, w ∈ wsX2_openRows := by decide +kernel
  have hi_X1 : ∀ w ∈ u_ws RX1 TX1 5, w ∈ wsX2_openRows := by decide +kernel
  intro k
  induction k with
  | zero =>
    intro r H locs hi hP hD hS ls hl
    have hr1 : r = 10 := by omega
    subst hr1
    refine lv_iload_n hx hb dX2_openRows_4 rfl (lv_at hl 0 rfl) ?_
    refine lv_bipush (v := 10) hx hb dX2_openRows_5 (by decide) ?_
    refine lv_icmp_ge (tgt := 31) hx hb dX2_openRows_7 (by decide) (fun c7 => ?_) (fun c7 => ?_)
    · refine lv_iload_n hx hb dX2_openRows_31 rfl (lv_at hl 1 rfl) ?_
      exact g_iret hx hb hr hlocks (Nat.le_of_ble_eq_true rfl) (Nat.le_of_ble_eq_true rfl) hK hP hD hS dX2_openRows_32 (⟨rfl, rfl⟩)
    · exact absurd (nI_le (a := 10) (by omega) (by omega)) c7
  | succ k ih =>
    intro r H locs hi hP hD hS ls hl
    have hr10 : r < 10 := by omega
    have hrz := hz r hr10
    refine lv_iload_n hx hb dX2_openRows_4 rfl (lv_at hl 0 rfl) ?_
    refine lv_bipush (v := 10) hx hb dX2_openRows_5 (by decide) ?_
    refine lv_icmp_ge (tgt := 31) hx hb dX2_openRows_7 (by decide) (fun c7 => ?_) (fun c7 => ?_)
    · exact absurd c7 (nI_ge (b := 10) (by omega) (by decide))
    · refine lv_aload_n hx hb dX2_openRows_10 rfl (lv_at hl 2 rfl) ?_
      refine va_get (C := RX2) (T := TX2) (N := 8) (ci := 2) hx hb hts hi_X2 hown hK hP (0) (rfl) rfl 0 (by decide) (hts (.fieldLink RX2 11 "GroupSeats" "rows" "[LGroupSeats$Row;") (by decide +kernel)) (fun _ h9 => h9) rfl dX2_openRows_11 ?_
      refine lv_iload_n hx hb dX2_openRows_14 rfl (lv_at hl 0 rfl) ?_
      refine g_aldq hx hb hK hP (1) 2 (rfl) rfl (vp_in_nI hr10 (by decide)) (gRf_at hr10 (by decide)) dX2_openRows_15 ?_
      refine g_calli (va_runV (As := []) (rest := []) ⟨hx, hb, hml, hown, hts⟩ (c_isOpen l D K _ (a 1 r) (a 2 r) (2 * r + 4) (nI (z r)) (sd r) (ho r) (bk r) _ (hW_row hr10)) (cwV 0 hts gX2_openRows_X1_isOpen rfl rfl rfl (by decide +kernel) ⟨(Nat.le_of_ble_eq_true rfl), (Nat.le_of_ble_eq_true rfl)⟩) (g_preV hK hP hD (ci := 1) (q0 := 2 * r + 4) rfl (hW_row hr10)) rfl rfl hl.1 rfl (lv_room (Nat.le_of_ble_eq_true rfl)) dX2_openRows_16 ⟨Nat.zero_le _, Nat.zero_le _⟩) hD hS hA (fun r16 wv H locs hw hP hD hS => ?_)
      obtain ⟨ew, e16⟩ := hw
      rw [ew] at hP hD
      refine lv_if_eq (tgt := 25) hx hb dX2_openRows_19 (by decide) (fun c19 => ?_) (fun c19 => ?_)
      · refine lv_iinc (lv' := [(2, .int _), (1, .int _), (0, .ref _)]) hx hb dX2_openRows_25 hl (k := 0) rfl rfl (by decide) rfl (fun ls hl => ?_)
        refine lv_goto (tgt := 4) hx hb dX2_openRows_28 (by decide) ?_
        rw [g_inc] at hl
        have hzr : z r = 0 := Classical.not_not.mp (fun h0 => (e16.mp c19) (by rw [show (0 : Int32) = nI 0 from rfl]; exact nI_lt (by omega) (by omega)))
        have e1 : cntO z (r + 1) = cntO z r := by simp [cntO, hzr]
        rw [← e1] at hl
        exact ih (r + 1) H locs (by omega) hP hD hS ls (lv_sub hl [0, 1, 2] rfl)
      · refine lv_iinc (lv' := [(1, .int _), (2, .int _), (0, .ref _)]) hx hb dX2_openRows_22 hl (k := 1) rfl rfl (by decide) rfl (fun ls hl => ?_)
        refine lv_iinc (lv' := [(2, .int _), (1, .int _), (0, .ref _)]) hx hb dX2_openRows_25 hl (k := 1) rfl rfl (by decide) rfl (fun ls hl => ?_)
        refine lv_goto (tgt := 4) hx hb dX2_openRows_28 (by decide) ?_
        rw [g_inc] at hl
        rw [g_inc] at hl
        have hzr : z r ≠ 0 := fun h0 => c19 (e16.mpr (by rw [h0]; decide))
        have e1 : cntO z (r + 1) = cntO z r + 1 := by simp [cntO, hzr]
        rw [← e1] at hl
        exact ih (r + 1) H locs (by omega) hP hD hS ls (lv_sub hl [0, 1, 2] rfl)
set_option maxHeartbeats 4000000 in
set_option maxRecDepth 100000 in
theorem h_openRows (l : Launch) (D : va_G) (K : gCl) (a : Nat → Nat → Nat) (z : Nat → Nat) (sd ho bk : Nat → Int32) (ow : Nat → Nat → Int32) (pl pn pm : Nat → Int32) (nm : Nat → Nat → Int32) (cn : Nat → Int32) (co : Nat) (qu : Nat → Nat) (B wt mh fl : Int32) (sz : Nat) (hz : ∀ i, i < 10 → z i ≤ 20) : gMi l yX2_openRows wsX2_openRows ({ frames := 1, cells := 0, slots := 0, locals := 40 } : Room) D vwCl (gT K) [.ref (a 0 0)] (hW K a z sd ho bk ow pl pn pm nm cn co qu B wt mh fl) sz (fun r1 w1 => w1 = hW K a z sd ho bk ow pl pn pm nm cn co qu B wt mh fl ∧ r1 = nI (cntO z 10)) 0 0 := by
  refine g_of (cc := cX2_openRows) (maxL := 3) (ret := (some .int)) (Qc := fun A => va_Qi (fun r1 w1 => w1 = hW K a z sd ho bk ow pl pn pm nm cn co qu B wt mh fl ∧ r1 = nI (cntO z 10)) (gB D vwCl (gT K) A) A) (by decide) rfl (Nat.le_of_ble_eq_true rfl) ?_
  intro p e s m below meth c A ls I hl
  have I0 := I
  obtain ⟨hx, hb, hr, hml, hown, hts, hlocks, hnm, hA, hK, hP, hD, hS⟩ := I
  have hown : s.vm.findClass RX2 = some m.cls := hown
  have hl : lv_has ls 3 [(0, .ref (a 0 0))] := hl
  have hi_X2 : ∀ w ∈ u_ws RX2 TX2 8, w ∈ wsX2_openRows := by decide +kernel
  refine lv_iconst (v := 0) hx hb dX2_openRows_0 (by decide) ?_
  refine lv_istore_n (lv' := [(1, .int _), (0, .ref _)]) hx hb dX2_openRows_1 rfl hl (by decide) rfl (fun ls hl => ?_)
  refine lv_iconst (v := 0) hx hb dX2_openRows_2 (by decide) ?_
  refine lv_istore_n (lv' := [(2, .int _), (1, .int _), (0, .ref _)]) hx hb dX2_openRows_3 rfl hl (by decide) rfl (fun ls hl => ?_)
  exact lp_openRows hz I0 10 0 _ _ (by omega) hP hD hS ls (lv_sub hl [0, 1, 2] rfl)
theorem told_out {x : Int32} (h : x.toInt < 0 ∨ 5 < x.toInt) : x ≠ 0 ∧ x ≠ 1 ∧ x ≠ 2 ∧ x ≠ 3 ∧ x ≠ 4 ∧ x ≠ 5 := by
  refine ⟨?_, ?_, ?_, ?_, ?_, ?_⟩ <;> (intro q; subst q; revert h; decide)
set_option maxHeartbeats 4000000 in
set_option maxRecDepth 100000 in
theorem h_told (l : Launch) (D : va_G) (K : gCl) (a : Nat → Nat → Nat) (z : Nat → Nat) (sd ho bk : Nat → Int32) (ow : Nat → Nat → Int32) (pl pn pm : Nat → Int32) (nm : Nat → Nat → Int32) (cn : Nat → Int32) (co : Nat) (qu : Nat → Nat) (B mh : Nat) (fl : Int32) (q : List Pty) (li : List Nat) (k : Int32) (sz : Nat) (hz : ∀ i, i < 10 → z i ≤ 20) (hB40 : B ≤ 40) (hq8 : q.length ≤ 8) (hmh6 : mh ≤ 6) (hM : PM qu co) (hPs : PQ pl pn pm nm qu 0 q) (hlc : pl co = nI li.length) (hLc : isL (nm co) li) : gMi l yX2_told wsX2_told ({ frames := 14, cells := 0, slots := 0, locals := 420 } : Room) D vwCl (gT K) [.ref (a 0 0), .int k] (hW K a z sd ho bk ow pl pn pm nm cn co qu (nI B) (nI q.length) (nI mh) fl) sz (RP K (a 0 0) (opTold z sd ow cn B q li mh fl k)) 0 0 := by
  refine g_of (cc := cX2_told) (maxL := 2) (ret := (some .int)) (Qc := fun A => va_Qi (RP K (a 0 0) (opTold z sd ow cn B q li mh fl k)) (gB D vwCl (gT K) A) A) (by decide) rfl (Nat.le_of_ble_eq_true rfl) ?_
  intro p e s m below meth c A ls I hl
  have I0 := I
  obtain ⟨hx, hb, hr, hml, hown, hts, hlocks, hnm, hA, hK, hP, hD, hS⟩ := I
  have hown : s.vm.findClass RX2 = some m.cls := hown
  have hl : lv_has ls 2 [(0, .ref (a 0 0)), (1, .int k)] := hl
  have hi_X2 : ∀ w ∈ u_ws RX2 TX2 8, w ∈ wsX2_told := by decide +kernel
  have hi_X0 : ∀ w ∈ u_ws RX0 TX0 4, w ∈ wsX2_told := by decide +kernel
  have hco := hM.2.1
  refine lv_iload_n hx hb dX2_told_0 rfl (lv_at hl 1 rfl) ?_
  rcases g_sw k 5 (by decide) with hk | ⟨i, hi, rfl⟩
  · refine lv_tableOut (tgt := 73) hx hb dX2_told_1 hk (by decide) ?_
    refine lv_iconst (v := -1) hx hb dX2_told_73 (by decide) ?_
    exact g_iret hx hb hr hlocks (Nat.le_of_ble_eq_true rfl) (Nat.le_of_ble_eq_true rfl) hK hP hD hS dX2_told_74 (by obtain ⟨q0, q1, q2, q3, q4, q5⟩ := told_out hk; unfold opTold; rw [if_neg q0, if_neg q1, if_neg q2, if_neg q3, if_neg q4, if_neg q5]; exact ⟨rfl, ⟨a, ho, bk, pl, pn, pm, nm, co, qu, rfl, rfl, hM, hPs, hlc, hLc⟩⟩)
  · rcases (show i = 0 ∨ i = 1 ∨ i = 2 ∨ i = 3 ∨ i = 4 ∨ i = 5 by omega) with rfl | rfl | rfl | rfl | rfl | rfl
    · refine lv_tableIn (off := 39) (tgt := 40) hx hb dX2_told_1 (by decide) (by decide) rfl (by decide) ?_
      refine lv_aload_n hx hb dX2_told_40 rfl (lv_at hl 0 rfl) ?_
      refine va_get (C := RX2) (T := TX2) (N := 8) (ci := 2) hx hb hts hi_X2 hown hK hP (0) (rfl) rfl 4 (by decide) (hts (.fieldLink RX2 66 "GroupSeats" "bookings" "I") (by decide +kernel)) (fun _ h9 => h9) rfl dX2_told_41 ?_
      exact g_iret hx hb hr hlocks (Nat.le_of_ble_eq_true rfl) (Nat.le_of_ble_eq_true rfl) hK hP hD hS dX2_told_44 (by unfold opTold; rw [if_pos (by decide)]; exact ⟨rfl, ⟨a, ho, bk, pl, pn, pm, nm, co, qu, rfl, rfl, hM, hPs, hlc, hLc⟩⟩)
    · refine lv_tableIn (off := 44) (tgt := 45) hx hb dX2_told_1 (by decide) (by decide) rfl (by decide) ?_
      refine lv_aload_n hx hb dX2_told_45 rfl (lv_at hl 0 rfl) ?_
      refine va_get (C := RX2) (T := TX2) (N := 8) (ci := 2) hx hb hts hi_X2 hown hK hP (0) (rfl) rfl 5 (by decide) (hts (.fieldLink RX2 77 "GroupSeats" "waiters" "I") (by decide +kernel)) (fun _ h9 => h9) rfl dX2_told_46 ?_
      exact g_iret hx hb hr hlocks (Nat.le_of_ble_eq_true rfl) (Nat.le_of_ble_eq_true rfl) hK hP hD hS dX2_told_49 (by unfold opTold; rw [if_neg (by decide)]; rw [if_pos (by decide)]; exact ⟨rfl, ⟨a, ho, bk, pl, pn, pm, nm, co, qu, rfl, rfl, hM, hPs, hlc, hLc⟩⟩)
    · refine lv_tableIn (off := 49) (tgt := 50) hx hb dX2_told_1 (by decide) (by decide) rfl (by decide) ?_
      refine lv_aload_n hx hb dX2_told_50 rfl (lv_at hl 0 rfl) ?_
      refine va_get (C := RX2) (T := TX2) (N := 8) (ci := 2) hx hb hts hi_X2 hown hK hP (0) (rfl) rfl 6 (by decide) (hts (.fieldLink RX2 101 "GroupSeats" "mostHeld" "I") (by decide +kernel)) (fun _ h9 => h9) rfl dX2_told_51 ?_
      exact g_iret hx hb hr hlocks (Nat.le_of_ble_eq_true rfl) (Nat.le_of_ble_eq_true rfl) hK hP hD hS dX2_told_54 (by unfold opTold; rw [if_neg (by decide)]; rw [if_neg (by decide)]; rw [if_pos (by decide)]; exact ⟨rfl, ⟨a, ho, bk, pl, pn, pm, nm, co, qu, rfl, rfl, hM, hPs, hlc, hLc⟩⟩)
    · refine lv_tableIn (off := 54) (tgt := 55) hx hb dX2_told_1 (by decide) (by decide) rfl (by decide) ?_
      refine lv_aload_n hx hb dX2_told_55 rfl (lv_at hl 0 rfl) ?_
      refine va_get (C := RX2) (T := TX2) (N := 8) (ci := 2) hx hb hts hi_X2 hown hK hP (0) (rfl) rfl 7 (by decide) (hts (.fieldLink RX2 104 "GroupSeats" "failures" "I") (by decide +kernel)) (fun _ h9 => h9) rfl dX2_told_56 ?_
      exact g_iret hx hb hr hlocks (Nat.le_of_ble_eq_true rfl) (Nat.le_of_ble_eq_true rfl) hK hP hD hS dX2_told_59 (by unfold opTold; rw [if_neg (by decide)]; rw [if_neg (by decide)]; rw [if_neg (by decide)]; rw [if_pos (by decide)]; exact ⟨rfl, ⟨a, ho, bk, pl, pn, pm, nm, co, qu, rfl, rfl, hM, hPs, hlc, hLc⟩⟩)
    · refine lv_tableIn (off := 59) (tgt := 60) hx hb dX2_told_1 (by decide) (by decide) rfl (by decide) ?_
      refine lv_aload_n hx hb dX2_told_60 rfl (lv_at hl 0 rfl) ?_
      refine va_get (C := RX2) (T := TX2) (N := 8) (ci := 2) hx hb hts hi_X2 hown hK hP (0) (rfl) rfl 3 (by decide) (hts (.fieldLink RX2 26 "GroupSeats" "coming" "LGroupSeats$Party;") (by decide +kernel)) (fun _ h9 => h9) rfl dX2_told_61 ?_
      refine va_get (C := RX0) (T := TX0) (N := 4) (ci := 0) hx hb hts hi_X0 hown hK hP (2 * co + 20 + 4) (hW_par hco) rfl 1 (by decide) (hts (.fieldLink RX2 59 "GroupSeats$Party" "listed" "I") (by decide +kernel)) (fun _ h9 => h9) rfl dX2_told_64 ?_
      exact g_iret hx hb hr hlocks (Nat.le_of_ble_eq_true rfl) (Nat.le_of_ble_eq_true rfl) hK hP hD hS dX2_told_67 (by unfold opTold; rw [if_neg (by decide)]; rw [if_neg (by decide)]; rw [if_neg (by decide)]; rw [if_neg (by decide)]; rw [if_pos (by decide), ← hlc]; exact ⟨rfl, ⟨a, ho, bk, pl, pn, pm, nm, co, qu, rfl, rfl, hM, hPs, hlc, hLc⟩⟩)
    · refine lv_tableIn (off := 67) (tgt := 68) hx hb dX2_told_1 (by decide) (by decide) rfl (by decide) ?_
      refine lv_aload_n hx hb dX2_told_68 rfl (lv_at hl 0 rfl) ?_
      refine g_calli (va_runV (As := []) (rest := []) ⟨hx, hb, hml, hown, hts⟩ (h_openRows l D K a z sd ho bk ow pl pn pm nm cn co qu (nI B) (nI q.length) (nI mh) fl _ hz) (cwV 0 hts gX2_told_X2_openRows rfl rfl rfl (by decide +kernel) ⟨(Nat.le_of_ble_eq_true rfl), (Nat.le_of_ble_eq_true rfl)⟩) (g_preV hK hP hD (ci := 2) (q0 := 0) rfl (rfl)) rfl rfl hl.1 rfl (lv_room (Nat.le_of_ble_eq_true rfl)) dX2_told_69 ⟨Nat.zero_le _, Nat.zero_le _⟩) hD hS hA (fun r69 wv H locs hw hP hD hS => ?_)
      obtain ⟨ew, er⟩ := hw
      rw [ew] at hP hD
      subst er
      exact g_iret hx hb hr hlocks (Nat.le_of_ble_eq_true rfl) (Nat.le_of_ble_eq_true rfl) hK hP hD hS dX2_told_72 (by unfold opTold; rw [if_neg (by decide)]; rw [if_neg (by decide)]; rw [if_neg (by decide)]; rw [if_neg (by decide)]; rw [if_neg (by decide)]; rw [if_pos (by decide)]; exact ⟨rfl, ⟨a, ho, bk, pl, pn, pm, nm, co, qu, rfl, rfl, hM, hPs, hlc, hLc⟩⟩)
end
section
section HW3
variable {K : gCl} {a : Nat → Nat → Nat} {z : Nat → Nat} {sd ho bk : Nat → Int32} {ow : Nat → Nat → Int32} {pl pn pm : Nat → Int32} {nm : Nat → Nat → Int32} {cn : Nat → Int32} {co : Nat} {qu : Nat → Nat} {B wt mh fl : Int32}
theorem hW_setPl {j : Nat} {l' : Int32} (hj : j < 9) : (hW K a z sd ho bk ow pl pn pm nm cn co qu B wt mh fl).set (2 * j + 20 + 4) (a 3 j, gPar (a 4 j) l' (pn j) (pm j)) = hW K a z sd ho bk ow (va_up pl j l') pn pm nm cn co qu B wt mh fl := by
  rw [hW_setPar hj, va_up_id, va_up_id]
theorem hW_setPn {j : Nat} {l' : Int32} (hj : j < 9) : (hW K a z sd ho bk ow pl pn pm nm cn co qu B wt mh fl).set (2 * j + 20 + 4) (a 3 j, gPar (a 4 j) (pl j) l' (pm j)) = hW K a z sd ho bk ow pl (va_up pn j l') pm nm cn co qu B wt mh fl := by
  rw [hW_setPar hj, va_up_id, va_up_id]
theorem hW_setPm {j : Nat} {l' : Int32} (hj : j < 9) : (hW K a z sd ho bk ow pl pn pm nm cn co qu B wt mh fl).set (2 * j + 20 + 4) (a 3 j, gPar (a 4 j) (pl j) (pn j) l') = hW K a z sd ho bk ow pl pn (va_up pm j l') nm cn co qu B wt mh fl := by
  rw [hW_setPar hj, va_up_id, va_up_id]
end HW3
theorem PR_l {pl pn pm : Nat → Int32} {nm : Nat → Nat → Int32} {c j : Nat} {P : Pty} {l' : Int32} (h : PR pl pn pm nm j P) (hj : j ≠ c) : PR (va_up pl c l') pn pm nm j P := ⟨by rw [va_up_ne _ _ hj]; exact h.1, h.2⟩
theorem PR_n {pl pn pm : Nat → Int32} {nm : Nat → Nat → Int32} {c j : Nat} {P : Pty} {n' m' : Int32} (h : PR pl pn pm nm j P) (hj : j ≠ c) : PR pl (va_up pn c n') (va_up pm c m') nm j P := ⟨h.1, by rw [va_up_ne _ _ hj]; exact h.2.1, by rw [va_up_ne _ _ hj]; exact h.2.2.1, h.2.2.2⟩
theorem PQ_l {pl pn pm : Nat → Int32} {nm : Nat → Nat → Int32} {qu : Nat → Nat} {co : Nat} {q : List Pty} {l' : Int32} (hM : PM qu co) (hq : q.length ≤ 8) (h : PQ pl pn pm nm qu 0 q) : PQ (va_up pl co l') pn pm nm qu 0 q := fun i P hi => by
  have hl := (List.getElem?_eq_some_iff.mp hi).1
  exact PR_l (h i P hi) (hM.2.2.2 _ (by omega))
theorem PQ_n {pl pn pm : Nat → Int32} {nm : Nat → Nat → Int32} {qu : Nat → Nat} {co : Nat} {q : List Pty} {n' m' : Int32} (hM : PM qu co) (hq : q.length ≤ 8) (h : PQ pl pn pm nm qu 0 q) : PQ pl (va_up pn co n') (va_up pm co m') nm qu 0 q := fun i P hi => by
  have hl := (List.getElem?_eq_some_iff.mp hi).1
  exact PR_n (h i P hi) (hM.2.2.2 _ (by omega))
theorem PM_que {qu : Nat → Nat} {co n : Nat} (h : PM qu co) (hn : n < 8) : PM (va_up qu n co) (qu n) := by
  obtain ⟨h1, h2, h3, h4⟩ := h
  refine ⟨fun i hi => ?_, h1 n hn, fun i k hi hk e => ?_, fun i hi => ?_⟩
  · by_cases e : i = n
    · subst e; rw [va_up_self]; exact h2
    · rw [va_up_ne _ _ e]; exact h1 i hi
  · by_cases e1 : i = n <;> by_cases e2 : k = n
    · omega
    · subst e1; rw [va_up_self, va_up_ne _ _ e2] at e; exact absurd e.symm (h4 k hk)
    · subst e2; rw [va_up_self, va_up_ne _ _ e1] at e; exact absurd e (h4 i hi)
    · rw [va_up_ne _ _ e1, va_up_ne _ _ e2] at e; exact h3 i k hi hk e
  · by_cases e : i = n
    · subst e; rw [va_up_self]; exact fun q => h4 i hi q.symm
    · rw [va_up_ne _ _ e]; exact fun q => e (h3 i n hi hn q)
theorem PQ_que {pl pn pm : Nat → Int32} {nm : Nat → Nat → Int32} {qu : Nat → Nat} {co : Nat} {q : List Pty} {P : Pty} (hM : PM qu co) (hq : q.length < 8) (h : PQ pl pn pm nm qu 0 q) (hP : PR pl pn pm nm co P) {l' : Int32} : PQ (va_up pl (qu q.length) l') pn pm nm (va_up qu q.length co) 0 (q ++ [P]) := fun i Q hi => by
  rw [Nat.zero_add]
  rcases Nat.lt_or_ge i q.length with c | c
  · rw [List.getElem?_append_left c] at hi
    rw [va_up_ne _ _ (by omega)]
    have := h i Q hi
    rw [Nat.zero_add] at this
    exact PR_l this (fun e => by have := hM.2.2.1 i q.length (by omega) hq e; omega)
  · have hl := (List.getElem?_eq_some_iff.mp hi).1
    rw [List.length_append, List.length_singleton] at hl
    have e : i = q.length := by omega
    rw [e, List.getElem?_append_right (Nat.le_refl _), Nat.sub_self] at hi
    cases hi
    rw [e, va_up_self]
    exact PR_l hP (fun e => hM.2.2.2 _ hq e.symm)
/-- freeing a booking's seats row by row -/
def fo (z : Nat → Nat) (ow : Nat → Nat → Int32) (x : Int32) (n : Nat) : Nat → Nat → Int32 := fun i => if i < n then freeV (ow i) x (z i) else ow i
theorem fo_0 (z : Nat → Nat) (ow : Nat → Nat → Int32) (x : Int32) : fo z ow x 0 = ow := by funext i; simp [fo]
theorem fo_at (z : Nat → Nat) (ow : Nat → Nat → Int32) (x : Int32) (n : Nat) : fo z ow x n n = ow n := by simp [fo]
theorem fo_up (z : Nat → Nat) (ow : Nat → Nat → Int32) (x : Int32) (n : Nat) : va_up (fo z ow x n) n (freeV (ow n) x (z n)) = fo z ow x (n + 1) := by
  funext i
  by_cases h : i = n
  · subst h; simp [fo, va_up]
  · by_cases h2 : i < n
    · simp [fo, va_up, h, h2, show i < n + 1 by omega]
    · simp [fo, va_up, h, h2, show ¬ i < n + 1 by omega]
/-- the queue moves up -/
def shf (qu : Nat → Nat) (k i : Nat) : Nat → Nat := fun t => if k ≤ t ∧ t < i then qu (t + 1) else qu t
theorem shf_k (qu : Nat → Nat) (k : Nat) : shf qu k k = qu := by funext t; simp [shf]; omega
theorem shf_next (qu : Nat → Nat) {k i : Nat} : shf qu k i (i + 1) = qu (i + 1) := by simp only [shf]; rw [if_neg (by omega)]
theorem shf_up {qu : Nat → Nat} {k i : Nat} (hk : k ≤ i) : va_up (shf qu k i) i (qu (i + 1)) = shf qu k (i + 1) := by
  funext t
  by_cases h : t = i
  · subst h; simp [shf, va_up, hk]
  · by_cases h1 : k ≤ t <;> by_cases h2 : t < i
    · simp [shf, va_up, h, h1, h2, show t < i + 1 by omega]
    · simp [shf, va_up, h, h1, h2, show ¬ t < i + 1 by omega]
    · simp [shf, va_up, h, h1]
    · simp [shf, va_up, h, h1]
def rot (qu : Nat → Nat) (k n : Nat) : Nat → Nat := va_up (shf qu k n) n (qu k)
theorem rot_eq {qu : Nat → Nat} {k n : Nat} (t : Nat) : ∃ t', rot qu k n t = qu t' ∧ ((t = n ∧ t' = k) ∨ (t ≠ n ∧ k ≤ t ∧ t < n ∧ t' = t + 1) ∨ (t ≠ n ∧ ¬ (k ≤ t ∧ t < n) ∧ t' = t)) := by
  by_cases h : t = n
  · subst h; exact ⟨k, by simp [rot, va_up], Or.inl ⟨rfl, rfl⟩⟩
  · by_cases h1 : k ≤ t ∧ t < n
    · exact ⟨t + 1, by simp [rot, va_up, h, shf, h1], Or.inr (Or.inl ⟨h, h1.1, h1.2, rfl⟩)⟩
    · exact ⟨t, by rw [rot, va_up_ne _ _ h, shf, if_neg h1], Or.inr (Or.inr ⟨h, h1, rfl⟩)⟩
theorem PM_rot {qu : Nat → Nat} {co k n : Nat} (h : PM qu co) (hk : k ≤ n) (hn : n < 8) : PM (rot qu k n) co := by
  obtain ⟨h1, h2, h3, h4⟩ := h
  refine ⟨fun i hi => ?_, h2, fun i j hi hj e => ?_, fun i hi => ?_⟩
  · obtain ⟨t, e, c⟩ := rot_eq (qu := qu) (k := k) (n := n) i
    rw [e]; exact h1 t (by omega)
  · obtain ⟨t, e1, c1⟩ := rot_eq (qu := qu) (k := k) (n := n) i
    obtain ⟨u, e2, c2⟩ := rot_eq (qu := qu) (k := k) (n := n) j
    rw [e1, e2] at e
    have := h3 t u (by omega) (by omega) e
    omega
  · obtain ⟨t, e, c⟩ := rot_eq (qu := qu) (k := k) (n := n) i
    rw [e]; exact h4 t (by omega)
theorem PQ_rot {pl pn pm : Nat → Int32} {nm : Nat → Nat → Int32} {qu : Nat → Nat} {q : List Pty} {k : Nat} (hk : k < q.length) (h : PQ pl pn pm nm qu 0 q) : PQ pl pn pm nm (rot qu k (q.length - 1)) 0 (q.eraseIdx k) := fun i P hi => by
  have hl := (List.getElem?_eq_some_iff.mp hi).1
  rw [List.length_eraseIdx_of_lt hk] at hl
  rw [Nat.zero_add]
  obtain ⟨t, e, c⟩ := rot_eq (qu := qu) (k := k) (n := q.length - 1) i
  rw [e]
  rw [List.getElem?_eraseIdx] at hi
  split at hi
  · have := h i P hi
    rw [Nat.zero_add] at this
    rw [show t = i by omega]
    exact this
  · have := h (i + 1) P hi
    rw [Nat.zero_add] at this
    rw [show t = i + 1 by omega]
    exact this
set_option maxHeartbeats 4000000 in
set_option maxRecDepth 100000 in
theorem h_open (l : Launch) (D : va_G) (K : gCl) (a : Nat → Nat → Nat) (z : Nat → Nat) (sd ho bk : Nat → Int32) (ow : Nat → Nat → Int32) (pl pn pm : Nat → Int32) (nm : Nat → Nat → Int32) (cn : Nat → Int32) (co : Nat) (qu : Nat → Nat) (B mh : Nat) (fl : Int32) (q : List Pty) (li : List Nat) (x n : Int32) (sz : Nat) (hz : ∀ i, i < 10 → z i ≤ 20) (hB40 : B ≤ 40) (hq8 : q.length ≤ 8) (hmh6 : mh ≤ 6) (hM : PM qu co) (hPs : PQ pl pn pm nm qu 0 q) (hlc : pl co = nI li.length) (hLc : isL (nm co) li) : gMi l yX2_open wsX2_open ({ frames := 14, cells := 0, slots := 0, locals := 420 } : Room) D vwCl (gT K) [.ref (a 0 0), .int x, .int n] (hW K a z sd ho bk ow pl pn pm nm cn co qu (nI B) (nI q.length) (nI mh) fl) sz (RP K (a 0 0) (opOpen z sd ow cn B q li mh fl x n)) 0 0 := by
  refine g_of (cc := cX2_open) (maxL := 3) (ret := (some .int)) (Qc := fun A => va_Qi (RP K (a 0 0) (opOpen z sd ow cn B q li mh fl x n)) (gB D vwCl (gT K) A) A) (by decide) rfl (Nat.le_of_ble_eq_true rfl) ?_
  intro p e s m below meth c A ls I hl
  have I0 := I
  obtain ⟨hx, hb, hr, hml, hown, hts, hlocks, hnm, hA, hK, hP, hD, hS⟩ := I
  have hown : s.vm.findClass RX2 = some m.cls := hown
  have hl : lv_has ls 3 [(0, .ref (a 0 0)), (1, .int x), (2, .int n)] := hl
  have hi_X2 : ∀ w ∈ u_ws RX2 TX2 8, w ∈ wsX2_open := by decide +kernel
  have hi_X1 : ∀ w ∈ u_ws RX1 TX1 5, w ∈ wsX2_open := by decide +kernel
  have hco := hM.2.1
  refine lv_iload_n hx hb dX2_open_0 rfl (lv_at hl 1 rfl) ?_
  refine g_calli (va_runS (As := [.int _]) (rest := []) ⟨hx, hb, hml, hown, hts⟩ (c_isRow l D K _ _ _) (va_cwS 1 hts gX2_open_X2_isRow rfl rfl rfl (by decide +kernel) ⟨(Nat.le_of_ble_eq_true rfl), (Nat.le_of_ble_eq_true rfl)⟩) (g_preS hK hP hD) rfl rfl hl.1 rfl (lv_room (Nat.le_of_ble_eq_true rfl)) dX2_open_1 ⟨Nat.zero_le _, Nat.zero_le _⟩) hD hS hA (fun r1 wv H locs hw hP hD hS => ?_)
  obtain ⟨ew, e1⟩ := hw
  rw [ew] at hP hD
  refine lv_if_eq (tgt := 18) hx hb dX2_open_4 (by decide) (fun c4 => ?_) (fun c4 => ?_)
  · simp only [e1, Classical.not_not] at c4
    refine lv_iconst (v := -1) hx hb dX2_open_18 (by decide) ?_
    exact g_iret hx hb hr hlocks (Nat.le_of_ble_eq_true rfl) (Nat.le_of_ble_eq_true rfl) hK hP hD hS dX2_open_19 (by unfold opOpen; rw [if_neg (fun h => by simp only [inRow, Int32.le_iff_toInt_le, Int32.lt_iff_toInt_lt, gl_m1, gl_0, gl_1, gl_2, gl_3, gl_5, gl_6, gl_8, gl_9, gl_10, gl_11, gl_20, gl_40, gl_60] at h c4; omega)]; exact ⟨rfl, ⟨a, ho, bk, pl, pn, pm, nm, co, qu, rfl, rfl, hM, hPs, hlc, hLc⟩⟩)
  · simp only [e1, Classical.not_not] at c4
    refine lv_iload_n hx hb dX2_open_7 rfl (lv_at hl 2 rfl) ?_
    refine lv_iconst (v := 1) hx hb dX2_open_8 (by decide) ?_
    refine lv_icmp_lt (tgt := 18) hx hb dX2_open_9 (by decide) (fun c9 => ?_) (fun c9 => ?_)
    · refine lv_iconst (v := -1) hx hb dX2_open_18 (by decide) ?_
      exact g_iret hx hb hr hlocks (Nat.le_of_ble_eq_true rfl) (Nat.le_of_ble_eq_true rfl) hK hP hD hS dX2_open_19 (by unfold opOpen; rw [if_neg (fun h => by simp only [inRow, Int32.le_iff_toInt_le, Int32.lt_iff_toInt_lt, gl_m1, gl_0, gl_1, gl_2, gl_3, gl_5, gl_6, gl_8, gl_9, gl_10, gl_11, gl_20, gl_40, gl_60] at h c4 c9; omega)]; exact ⟨rfl, ⟨a, ho, bk, pl, pn, pm, nm, co, qu, rfl, rfl, hM, hPs, hlc, hLc⟩⟩)
    · refine lv_iload_n hx hb dX2_open_12 rfl (lv_at hl 2 rfl) ?_
      refine lv_bipush (v := 20) hx hb dX2_open_13 (by decide) ?_
      refine lv_icmp_le (tgt := 20) hx hb dX2_open_15 (by decide) (fun c15 => ?_) (fun c15 => ?_)
      · obtain ⟨r, hr10, rfl⟩ := g_ix (n := 10) rfl c4
        have hrz := hz r hr10
        have hxr : ixN (nI r) = r := ixN_nI (by omega)
        refine lv_aload_n hx hb dX2_open_20 rfl (lv_at hl 0 rfl) ?_
        refine va_get (C := RX2) (T := TX2) (N := 8) (ci := 2) hx hb hts hi_X2 hown hK hP (0) (rfl) rfl 0 (by decide) (hts (.fieldLink RX2 11 "GroupSeats" "rows" "[LGroupSeats$Row;") (by decide +kernel)) (fun _ h9 => h9) rfl dX2_open_21 ?_
        refine lv_iload_n hx hb dX2_open_24 rfl (lv_at hl 1 rfl) ?_
        refine g_aldq hx hb hK hP (1) 2 (rfl) rfl (vp_in_nI hr10 (by decide)) (gRf_at hr10 (by decide)) dX2_open_25 ?_
        refine g_calli (va_runV (As := []) (rest := []) ⟨hx, hb, hml, hown, hts⟩ (c_isOpen l D K _ (a 1 r) (a 2 r) (2 * r + 4) (nI (z r)) (sd r) (ho r) (bk r) _ (hW_row hr10)) (cwV 0 hts gX2_open_X1_isOpen rfl rfl rfl (by decide +kernel) ⟨(Nat.le_of_ble_eq_true rfl), (Nat.le_of_ble_eq_true rfl)⟩) (g_preV hK hP hD (ci := 1) (q0 := 2 * r + 4) rfl (hW_row hr10)) rfl rfl hl.1 rfl (lv_room (Nat.le_of_ble_eq_true rfl)) dX2_open_26 ⟨Nat.zero_le _, Nat.zero_le _⟩) hD hS hA (fun r26 wv H locs hw hP hD hS => ?_)
        obtain ⟨ew, e26⟩ := hw
        rw [ew] at hP hD
        refine lv_if_eq (tgt := 35) hx hb dX2_open_29 (by decide) (fun c29 => ?_) (fun c29 => ?_)
        · have hzr : z r = 0 := Classical.not_not.mp (fun h0 => (e26.mp c29) (by rw [show (0 : Int32) = nI 0 from rfl]; exact nI_lt (by omega) (by omega)))
          obtain ⟨n1, hn1, hn2, rfl⟩ := g_ix1 (n := 20) rfl c9 c15
          have hz2 : ∀ i, i < 10 → va_up z r n1 i ≤ 20 := fun i hi => by
            by_cases e : i = r
            · subst e; rw [va_up_self]; omega
            · rw [va_up_ne _ _ e]; exact hz i hi
          refine lv_aload_n hx hb dX2_open_35 rfl (lv_at hl 0 rfl) ?_
          refine va_get (C := RX2) (T := TX2) (N := 8) (ci := 2) hx hb hts hi_X2 hown hK hP (0) (rfl) rfl 0 (by decide) (hts (.fieldLink RX2 11 "GroupSeats" "rows" "[LGroupSeats$Row;") (by decide +kernel)) (fun _ h9 => h9) rfl dX2_open_36 ?_
          refine lv_iload_n hx hb dX2_open_39 rfl (lv_at hl 1 rfl) ?_
          refine g_aldq hx hb hK hP (1) 2 (rfl) rfl (vp_in_nI hr10 (by decide)) (gRf_at hr10 (by decide)) dX2_open_40 ?_
          refine lv_iload_n hx hb dX2_open_41 rfl (lv_at hl 2 rfl) ?_
          refine g_callv (va_runV (As := [.int _]) (rest := []) ⟨hx, hb, hml, hown, hts⟩ (c_begin l D K _ (a 1 r) (a 2 r) (2 * r + 4) (2 * r + 1 + 4) (nI (z r)) (sd r) (ho r) (bk r) (nI n1) (ow r) _ (by omega) (hW_row hr10) (hW_own hr10)) (cwV 1 hts gX2_open_X1_begin rfl rfl rfl (by decide +kernel) ⟨(Nat.le_of_ble_eq_true rfl), (Nat.le_of_ble_eq_true rfl)⟩) (g_preV hK hP hD (ci := 1) (q0 := 2 * r + 4) rfl (hW_row hr10)) rfl rfl hl.1 rfl (lv_room (Nat.le_of_ble_eq_true rfl)) dX2_open_42 ⟨Nat.zero_le _, Nat.zero_le _⟩) hD hS hA (fun wv H locs hw hP hD hS => ?_)
          rw [hw, hW_setRow hr10, hW_setOwn hr10] at hP hD
          refine lv_aload_n hx hb dX2_open_45 rfl (lv_at hl 0 rfl) ?_
          refine g_calli (va_runV (As := []) (rest := []) ⟨hx, hb, hml, hown, hts⟩ (c_try l D K a (va_up z r n1) (va_up sd r 0) (va_up ho r (ho r)) (va_up bk r 0) (va_up ow r (gFill (-8) 20 (ow r))) pl pn pm nm cn co qu B mh fl q _ hz2 hq8 hB40 hmh6 hM hPs) (cwV 0 hts gX2_open_X2_tryThoseWaiting rfl rfl rfl (by decide +kernel) ⟨(Nat.le_of_ble_eq_true rfl), (Nat.le_of_ble_eq_true rfl)⟩) (g_preV hK hP hD (ci := 2) (q0 := 0) rfl (rfl)) rfl rfl hl.1 rfl (lv_room (Nat.le_of_ble_eq_true rfl)) dX2_open_46 ⟨Nat.zero_le _, Nat.zero_le _⟩) hD hS hA (fun r46 wv H locs hw hP hD hS => ?_)
          obtain ⟨er, ho2, bk2, qu2, ew, hM2, hPs2⟩ := hw
          rw [ew] at hP hD
          exact g_iret hx hb hr hlocks (Nat.le_of_ble_eq_true rfl) (Nat.le_of_ble_eq_true rfl) hK hP hD hS dX2_open_49 (by unfold opOpen; rw [if_pos ⟨inRow_nI hr10, by simp only [Int32.le_iff_toInt_le, Int32.lt_iff_toInt_lt, gl_m1, gl_0, gl_1, gl_2, gl_3, gl_5, gl_6, gl_8, gl_9, gl_10, gl_11, gl_20, gl_40, gl_60] at c9 ⊢; omega, c15⟩, hxr, ixN_nI (n := n1) (by omega), if_pos hzr]; exact ⟨er, a, ho2, bk2, pl, pn, pm, nm, co, qu2, rfl, rfl, hM2, hPs2, hlc, hLc⟩)
        · have hzr : z r ≠ 0 := fun h0 => c29 (e26.mpr (by rw [h0]; decide))
          refine lv_bipush (v := -2) hx hb dX2_open_32 (by decide) ?_
          exact g_iret hx hb hr hlocks (Nat.le_of_ble_eq_true rfl) (Nat.le_of_ble_eq_true rfl) hK hP hD hS dX2_open_34 (by unfold opOpen; rw [if_pos ⟨inRow_nI hr10, by simp only [Int32.le_iff_toInt_le, Int32.lt_iff_toInt_lt, gl_m1, gl_0, gl_1, gl_2, gl_3, gl_5, gl_6, gl_8, gl_9, gl_10, gl_11, gl_20, gl_40, gl_60] at c9 ⊢; omega, c15⟩, hxr, if_neg hzr]; exact ⟨rfl, ⟨a, ho, bk, pl, pn, pm, nm, co, qu, rfl, rfl, hM, hPs, hlc, hLc⟩⟩)
      · refine lv_iconst (v := -1) hx hb dX2_open_18 (by decide) ?_
        exact g_iret hx hb hr hlocks (Nat.le_of_ble_eq_true rfl) (Nat.le_of_ble_eq_true rfl) hK hP hD hS dX2_open_19 (by unfold opOpen; rw [if_neg (fun h => by simp only [inRow, Int32.le_iff_toInt_le, Int32.lt_iff_toInt_lt, gl_m1, gl_0, gl_1, gl_2, gl_3, gl_5, gl_6, gl_8, gl_9, gl_10, gl_11, gl_20, gl_40, gl_60] at h c4 c9 c15; omega)]; exact ⟨rfl, ⟨a, ho, bk, pl, pn, pm, nm, co, qu, rfl, rfl, hM, hPs, hlc, hLc⟩⟩)
set_option maxHeartbeats 4000000 in
set_option maxRecDepth 100000 in
/-- list -/
theorem h_list (l : Launch) (D : va_G) (K : gCl) (a : Nat → Nat → Nat) (z : Nat → Nat) (sd ho bk : Nat → Int32) (ow : Nat → Nat → Int32) (pl pn pm : Nat → Int32) (nm : Nat → Nat → Int32) (cn : Nat → Int32) (co : Nat) (qu : Nat → Nat) (B mh : Nat) (fl : Int32) (q : List Pty) (li : List Nat) (x : Int32) (sz : Nat) (hz : ∀ i, i < 10 → z i ≤ 20) (hB40 : B ≤ 40) (hq8 : q.length ≤ 8) (hmh6 : mh ≤ 6) (hM : PM qu co) (hPs : PQ pl pn pm nm qu 0 q) (hlc : pl co = nI li.length) (hLc : isL (nm co) li) : gMi l yX2_list wsX2_list ({ frames := 14, cells := 0, slots := 0, locals := 420 } : Room) D vwCl (gT K) [.ref (a 0 0), .int x] (hW K a z sd ho bk ow pl pn pm nm cn co qu (nI B) (nI q.length) (nI mh) fl) sz (RP K (a 0 0) (opList z sd ow cn B q li mh fl x)) 0 0 := by
  refine g_of (cc := cX2_list) (maxL := 2) (ret := (some .int)) (Qc := fun A => va_Qi (RP K (a 0 0) (opList z sd ow cn B q li mh fl x)) (gB D vwCl (gT K) A) A) (by decide) rfl (Nat.le_of_ble_eq_true rfl) ?_
  intro p e s m below meth c A ls I hl
  have I0 := I
  obtain ⟨hx, hb, hr, hml, hown, hts, hlocks, hnm, hA, hK, hP, hD, hS⟩ := I
  have hown : s.vm.findClass RX2 = some m.cls := hown
  have hl : lv_has ls 2 [(0, .ref (a 0 0)), (1, .int x)] := hl
  have hi_X2 : ∀ w ∈ u_ws RX2 TX2 8, w ∈ wsX2_list := by decide +kernel
  have hi_X0 : ∀ w ∈ u_ws RX0 TX0 4, w ∈ wsX2_list := by decide +kernel
  have hco := hM.2.1
  have hLc6 := hLc.1
  refine lv_iload_n hx hb dX2_list_0 rfl (lv_at hl 1 rfl) ?_
  refine lv_if_lt (tgt := 10) hx hb dX2_list_1 (by decide) (fun c1 => ?_) (fun c1 => ?_)
  · refine lv_iconst (v := -1) hx hb dX2_list_10 (by decide) ?_
    exact g_iret hx hb hr hlocks (Nat.le_of_ble_eq_true rfl) (Nat.le_of_ble_eq_true rfl) hK hP hD hS dX2_list_11 (by unfold opList; rw [if_neg (fun h => by simp only [inRow, Int32.le_iff_toInt_le, Int32.lt_iff_toInt_lt, gl_m1, gl_0, gl_1, gl_2, gl_3, gl_5, gl_6, gl_8, gl_9, gl_10, gl_11, gl_20, gl_40, gl_60] at h c1; omega)]; exact ⟨rfl, ⟨a, ho, bk, pl, pn, pm, nm, co, qu, rfl, rfl, hM, hPs, hlc, hLc⟩⟩)
  · refine lv_iload_n hx hb dX2_list_4 rfl (lv_at hl 1 rfl) ?_
    refine lv_bipush (v := 11) hx hb dX2_list_5 (by decide) ?_
    refine lv_icmp_le (tgt := 12) hx hb dX2_list_7 (by decide) (fun c7 => ?_) (fun c7 => ?_)
    · refine lv_aload_n hx hb dX2_list_12 rfl (lv_at hl 0 rfl) ?_
      refine va_get (C := RX2) (T := TX2) (N := 8) (ci := 2) hx hb hts hi_X2 hown hK hP (0) (rfl) rfl 3 (by decide) (hts (.fieldLink RX2 26 "GroupSeats" "coming" "LGroupSeats$Party;") (by decide +kernel)) (fun _ h9 => h9) rfl dX2_list_13 ?_
      refine va_get (C := RX0) (T := TX0) (N := 4) (ci := 0) hx hb hts hi_X0 hown hK hP (2 * co + 20 + 4) (hW_par hco) rfl 1 (by decide) (hts (.fieldLink RX2 59 "GroupSeats$Party" "listed" "I") (by decide +kernel)) (fun _ h9 => h9) rfl dX2_list_16 ?_
      refine lv_bipush (v := 6) hx hb dX2_list_19 (by decide) ?_
      refine lv_icmp_lt (tgt := 27) hx hb dX2_list_21 (by decide) (fun c21 => ?_) (fun c21 => ?_)
      · obtain ⟨i1, hi1, rfl⟩ := nI_of2 (n := 11) (M := 11) rfl c1 c7
        rw [hlc] at c21
        have hl6 : li.length < 6 := (nI_ltI (b := 6) (by omega) (by decide)).mp c21
        refine lv_aload_n hx hb dX2_list_27 rfl (lv_at hl 0 rfl) ?_
        refine va_get (C := RX2) (T := TX2) (N := 8) (ci := 2) hx hb hts hi_X2 hown hK hP (0) (rfl) rfl 3 (by decide) (hts (.fieldLink RX2 26 "GroupSeats" "coming" "LGroupSeats$Party;") (by decide +kernel)) (fun _ h9 => h9) rfl dX2_list_28 ?_
        refine va_get (C := RX0) (T := TX0) (N := 4) (ci := 0) hx hb hts hi_X0 hown hK hP (2 * co + 20 + 4) (hW_par hco) rfl 0 (by decide) (hts (.fieldLink RX2 62 "GroupSeats$Party" "numbers" "[I") (by decide +kernel)) (fun _ h9 => h9) rfl dX2_list_31 ?_
        refine lv_aload_n hx hb dX2_list_34 rfl (lv_at hl 0 rfl) ?_
        refine va_get (C := RX2) (T := TX2) (N := 8) (ci := 2) hx hb hts hi_X2 hown hK hP (0) (rfl) rfl 3 (by decide) (hts (.fieldLink RX2 26 "GroupSeats" "coming" "LGroupSeats$Party;") (by decide +kernel)) (fun _ h9 => h9) rfl dX2_list_35 ?_
        refine va_get (C := RX0) (T := TX0) (N := 4) (ci := 0) hx hb hts hi_X0 hown hK hP (2 * co + 20 + 4) (hW_par hco) rfl 1 (by decide) (hts (.fieldLink RX2 59 "GroupSeats$Party" "listed" "I") (by decide +kernel)) (fun _ h9 => h9) rfl dX2_list_38 ?_
        refine lv_iload_n hx hb dX2_list_41 rfl (lv_at hl 1 rfl) ?_
        refine va_iast hx hb hK hP hD hS (2 * co + 1 + 20 + 4) 0 (hW_num hco) rfl (by rw [hlc]; exact vp_in_nI hl6 (by decide)) dX2_list_42 (fun H locs hP hD hS => ?_)
        have hP : va_P D vwCl ((hW K a z sd ho bk ow pl pn pm nm cn co qu (nI B) (nI q.length) (nI mh) fl).set (2 * co + 1 + 20 + 4) (a 4 co, gArr K.1 6 (upd (nm co) (pl co).toNatClampNeg (nI i1)))) H := hP
        have hD : va_D A ((hW K a z sd ho bk ow pl pn pm nm cn co qu (nI B) (nI q.length) (nI mh) fl).set (2 * co + 1 + 20 + 4) (a 4 co, gArr K.1 6 (upd (nm co) (pl co).toNatClampNeg (nI i1)))) := hD
        rw [hlc, nI_clamp (by omega), hW_setNum hco] at hP hD
        refine lv_aload_n hx hb dX2_list_43 rfl (lv_at hl 0 rfl) ?_
        refine va_get (C := RX2) (T := TX2) (N := 8) (ci := 2) hx hb hts hi_X2 hown hK hP (0) (rfl) rfl 3 (by decide) (hts (.fieldLink RX2 26 "GroupSeats" "coming" "LGroupSeats$Party;") (by decide +kernel)) (fun _ h9 => h9) rfl dX2_list_44 ?_
        refine lv_dup hx hb dX2_list_47 rfl ?_
        refine va_get (C := RX0) (T := TX0) (N := 4) (ci := 0) hx hb hts hi_X0 hown hK hP (2 * co + 20 + 4) (hW_par hco) rfl 1 (by decide) (hts (.fieldLink RX2 59 "GroupSeats$Party" "listed" "I") (by decide +kernel)) (fun _ h9 => h9) rfl dX2_list_48 ?_
        refine lv_iconst (v := 1) hx hb dX2_list_51 (by decide) ?_
        refine lv_iadd hx hb dX2_list_52 ?_
        refine va_put (C := RX0) (T := TX0) (N := 4) (ci := 0) (ty := .int) hx hb hts hi_X0 tyX0 tyX0_ok nmX0 hown hK hP hD hS (2 * co + 20 + 4) (hW_par hco) rfl 1 (by decide) (hts (.fieldLink RX2 59 "GroupSeats$Party" "listed" "I") (by decide +kernel)) (fun _ h9 => h9) rfl (by decide +kernel) rfl rfl (Nat.le_of_ble_eq_true rfl) dX2_list_53 (fun H locs hP hD hS => ?_)
        have hP : va_P D vwCl ((hW K a z sd ho bk ow pl pn pm (va_up nm co (upd (nm co) li.length (nI i1))) cn co qu (nI B) (nI q.length) (nI mh) fl).set (2 * co + 20 + 4) (a 3 co, gPar (a 4 co) (pl co + 1) (pn co) (pm co))) H := hP
        have hD : va_D A ((hW K a z sd ho bk ow pl pn pm (va_up nm co (upd (nm co) li.length (nI i1))) cn co qu (nI B) (nI q.length) (nI mh) fl).set (2 * co + 20 + 4) (a 3 co, gPar (a 4 co) (pl co + 1) (pn co) (pm co))) := hD
        rw [hlc, nI_1, hW_setPar hco] at hP hD
        refine lv_aload_n hx hb dX2_list_56 rfl (lv_at hl 0 rfl) ?_
        refine va_get (C := RX2) (T := TX2) (N := 8) (ci := 2) hx hb hts hi_X2 hown hK hP (0) (rfl) rfl 3 (by decide) (hts (.fieldLink RX2 26 "GroupSeats" "coming" "LGroupSeats$Party;") (by decide +kernel)) (fun _ h9 => h9) rfl dX2_list_57 ?_
        refine va_get (C := RX0) (T := TX0) (N := 4) (ci := 0) hx hb hts hi_X0 hown hK hP (2 * co + 20 + 4) (hW_par hco) rfl 1 (by decide) (hts (.fieldLink RX2 59 "GroupSeats$Party" "listed" "I") (by decide +kernel)) (fun _ h9 => h9) rfl dX2_list_60 ?_
        exact g_iret hx hb hr hlocks (Nat.le_of_ble_eq_true rfl) (Nat.le_of_ble_eq_true rfl) hK hP hD hS dX2_list_63 (by unfold opList; rw [if_pos ⟨by simp only [Int32.le_iff_toInt_le, Int32.lt_iff_toInt_lt, gl_m1, gl_0, gl_1, gl_2, gl_3, gl_5, gl_6, gl_8, gl_9, gl_10, gl_11, gl_20, gl_40, gl_60] at c1 ⊢; omega, c7⟩, if_pos hl6, ixN_nI (by omega)]; exact ⟨va_up_self _ _ _, a, ho, bk, _, _, _, _, co, qu, rfl, rfl, hM, PQ_up hM hq8 hPs, by rw [va_up_self]; simp, by rw [va_up_self]; exact isL_push hLc hl6 hi1⟩)
      · refine lv_bipush (v := -3) hx hb dX2_list_24 (by decide) ?_
        exact g_iret hx hb hr hlocks (Nat.le_of_ble_eq_true rfl) (Nat.le_of_ble_eq_true rfl) hK hP hD hS dX2_list_26 (by rw [hlc] at c21; unfold opList; rw [if_pos ⟨by simp only [Int32.le_iff_toInt_le, Int32.lt_iff_toInt_lt, gl_m1, gl_0, gl_1, gl_2, gl_3, gl_5, gl_6, gl_8, gl_9, gl_10, gl_11, gl_20, gl_40, gl_60] at c1 ⊢; omega, c7⟩, if_neg (fun h => c21 (nI_lt (b := 6) h (by decide)))]; exact ⟨rfl, ⟨a, ho, bk, pl, pn, pm, nm, co, qu, rfl, rfl, hM, hPs, hlc, hLc⟩⟩)
    · refine lv_iconst (v := -1) hx hb dX2_list_10 (by decide) ?_
      exact g_iret hx hb hr hlocks (Nat.le_of_ble_eq_true rfl) (Nat.le_of_ble_eq_true rfl) hK hP hD hS dX2_list_11 (by unfold opList; rw [if_neg (fun h => by simp only [inRow, Int32.le_iff_toInt_le, Int32.lt_iff_toInt_lt, gl_m1, gl_0, gl_1, gl_2, gl_3, gl_5, gl_6, gl_8, gl_9, gl_10, gl_11, gl_20, gl_40, gl_60] at h c1 c7; omega)]; exact ⟨rfl, ⟨a, ho, bk, pl, pn, pm, nm, co, qu, rfl, rfl, hM, hPs, hlc, hLc⟩⟩)
set_option maxHeartbeats 4000000 in
set_option maxRecDepth 100000 in
/-- queueUp -/
theorem c_queueUp (l : Launch) (D : va_G) (K : gCl) (a : Nat → Nat → Nat) (z : Nat → Nat) (sd ho bk : Nat → Int32) (ow : Nat → Nat → Int32) (pl pn pm : Nat → Int32) (nm : Nat → Nat → Int32) (cn : Nat → Int32) (co : Nat) (qu : Nat → Nat) (B wt mh : Nat) (fl : Int32) (sz : Nat) (hM : PM qu co) (hwt : wt < 8) : gMv l yX2_queueUp wsX2_queueUp ({ frames := 0, cells := 0, slots := 0, locals := 0 } : Room) D vwCl (gT K) [.ref (a 0 0)] (hW K a z sd ho bk ow pl pn pm nm cn co qu (nI B) (nI wt) (nI mh) fl) sz (fun w1 => w1 = hW K a z sd ho bk ow pl pn pm nm cn (qu wt) (va_up qu wt co) (nI B) (nI (wt + 1)) (nI mh) fl) 0 0 := by
  refine g_of (cc := cX2_queueUp) (maxL := 2) (ret := none) (Qc := fun A => va_Qv (fun w1 => w1 = hW K a z sd ho bk ow pl pn pm nm cn (qu wt) (va_up qu wt co) (nI B) (nI (wt + 1)) (nI mh) fl) (gB D vwCl (gT K) A) A) (by decide) rfl (Nat.le_of_ble_eq_true rfl) ?_
  intro p e s m below meth c A ls I hl
  have I0 := I
  obtain ⟨hx, hb, hr, hml, hown, hts, hlocks, hnm, hA, hK, hP, hD, hS⟩ := I
  have hown : s.vm.findClass RX2 = some m.cls := hown
  have hl : lv_has ls 2 [(0, .ref (a 0 0))] := hl
  have hi_X2 : ∀ w ∈ u_ws RX2 TX2 8, w ∈ wsX2_queueUp := by decide +kernel
  refine lv_aload_n hx hb dX2_queueUp_0 rfl (lv_at hl 0 rfl) ?_
  refine va_get (C := RX2) (T := TX2) (N := 8) (ci := 2) hx hb hts hi_X2 hown hK hP (0) (rfl) rfl 2 (by decide) (hts (.fieldLink RX2 21 "GroupSeats" "queue" "[LGroupSeats$Party;") (by decide +kernel)) (fun _ h9 => h9) rfl dX2_queueUp_1 ?_
  refine lv_aload_n hx hb dX2_queueUp_4 rfl (lv_at hl 0 rfl) ?_
  refine va_get (C := RX2) (T := TX2) (N := 8) (ci := 2) hx hb hts hi_X2 hown hK hP (0) (rfl) rfl 5 (by decide) (hts (.fieldLink RX2 77 "GroupSeats" "waiters" "I") (by decide +kernel)) (fun _ h9 => h9) rfl dX2_queueUp_5 ?_
  refine g_aldq hx hb hK hP (3) 3 (rfl) rfl (vp_in_nI hwt (by decide)) (gRf_at hwt (by decide)) dX2_queueUp_8 ?_
  refine lv_astore_n (lv' := [(1, .ref _), (0, .ref _)]) hx hb dX2_queueUp_9 rfl hl (by decide) rfl (fun ls hl => ?_)
  refine lv_aload_n hx hb dX2_queueUp_10 rfl (lv_at hl 1 rfl) ?_
  refine va_get (C := RX2) (T := TX2) (N := 8) (ci := 2) hx hb hts hi_X2 hown hK hP (0) (rfl) rfl 2 (by decide) (hts (.fieldLink RX2 21 "GroupSeats" "queue" "[LGroupSeats$Party;") (by decide +kernel)) (fun _ h9 => h9) rfl dX2_queueUp_11 ?_
  refine lv_aload_n hx hb dX2_queueUp_14 rfl (lv_at hl 1 rfl) ?_
  refine va_get (C := RX2) (T := TX2) (N := 8) (ci := 2) hx hb hts hi_X2 hown hK hP (0) (rfl) rfl 5 (by decide) (hts (.fieldLink RX2 77 "GroupSeats" "waiters" "I") (by decide +kernel)) (fun _ h9 => h9) rfl dX2_queueUp_15 ?_
  refine lv_aload_n hx hb dX2_queueUp_18 rfl (lv_at hl 1 rfl) ?_
  refine va_get (C := RX2) (T := TX2) (N := 8) (ci := 2) hx hb hts hi_X2 hown hK hP (0) (rfl) rfl 3 (by decide) (hts (.fieldLink RX2 26 "GroupSeats" "coming" "LGroupSeats$Party;") (by decide +kernel)) (fun _ h9 => h9) rfl dX2_queueUp_19 ?_
  refine va_astq hx hb hK hP hD hS 3 3 (2 * co + 20 + 4) 0 rfl rfl (hW_par hM.2.1) rfl (vp_in_nI hwt (by decide)) dX2_queueUp_22 (fun H locs hP hD hS => ?_)
  have hP : va_P D vwCl ((hW K a z sd ho bk ow pl pn pm nm cn co qu (nI B) (nI wt) (nI mh) fl).set (3) (a 0 3, gRef K.2.2.2 8 (va_up (gRf 8 (fun i => a 3 (qu i))) (nI wt).toNatClampNeg (some (a 3 co))))) H := hP
  have hD : va_D A ((hW K a z sd ho bk ow pl pn pm nm cn co qu (nI B) (nI wt) (nI mh) fl).set (3) (a 0 3, gRef K.2.2.2 8 (va_up (gRf 8 (fun i => a 3 (qu i))) (nI wt).toNatClampNeg (some (a 3 co))))) := hD
  rw [hW_setQu hwt] at hP hD
  refine lv_aload_n hx hb dX2_queueUp_23 rfl (lv_at hl 1 rfl) ?_
  refine lv_dup hx hb dX2_queueUp_24 rfl ?_
  refine va_get (C := RX2) (T := TX2) (N := 8) (ci := 2) hx hb hts hi_X2 hown hK hP (0) (rfl) rfl 5 (by decide) (hts (.fieldLink RX2 77 "GroupSeats" "waiters" "I") (by decide +kernel)) (fun _ h9 => h9) rfl dX2_queueUp_25 ?_
  refine lv_iconst (v := 1) hx hb dX2_queueUp_28 (by decide) ?_
  refine lv_iadd hx hb dX2_queueUp_29 ?_
  refine va_put (C := RX2) (T := TX2) (N := 8) (ci := 2) (ty := .int) hx hb hts hi_X2 tyX2 tyX2_ok nmX2 hown hK hP hD hS (0) (rfl) rfl 5 (by decide) (hts (.fieldLink RX2 77 "GroupSeats" "waiters" "I") (by decide +kernel)) (fun _ h9 => h9) rfl (by decide +kernel) rfl rfl (Nat.le_of_ble_eq_true rfl) dX2_queueUp_30 (fun H locs hP hD hS => ?_)
  have hP : va_P D vwCl (hW K a z sd ho bk ow pl pn pm nm cn co (va_up qu wt co) (nI B) (nI wt + 1) (nI mh) fl) H := hP
  have hD : va_D A (hW K a z sd ho bk ow pl pn pm nm cn co (va_up qu wt co) (nI B) (nI wt + 1) (nI mh) fl) := hD
  rw [nI_1 wt] at hP hD
  refine lv_aload_n hx hb dX2_queueUp_33 rfl (lv_at hl 1 rfl) ?_
  refine lv_aload_n hx hb dX2_queueUp_34 rfl (lv_at hl 0 rfl) ?_
  refine va_put (C := RX2) (T := TX2) (N := 8) (ci := 2) (ty := .object "GroupSeats$Party") hx hb hts hi_X2 tyX2 tyX2_ok nmX2 hown hK hP hD hS (0) (rfl) rfl 3 (by decide) (hts (.fieldLink RX2 26 "GroupSeats" "coming" "LGroupSeats$Party;") (by decide +kernel)) (fun _ h9 => h9) rfl (by decide +kernel) rfl rfl (Nat.le_of_ble_eq_true rfl) dX2_queueUp_35 (fun H locs hP hD hS => ?_)
  have hP : va_P D vwCl (hW K a z sd ho bk ow pl pn pm nm cn (qu wt) (va_up qu wt co) (nI B) (nI (wt + 1)) (nI mh) fl) H := hP
  have hD : va_D A (hW K a z sd ho bk ow pl pn pm nm cn (qu wt) (va_up qu wt co) (nI B) (nI (wt + 1)) (nI mh) fl) := hD
  exact g_vret hx hb hr hlocks (Nat.le_of_ble_eq_true rfl) (Nat.le_of_ble_eq_true rfl) hK hP hD hS dX2_queueUp_38 (rfl)
set_option maxHeartbeats 4000000 in
set_option maxRecDepth 100000 in
/-- book -/
theorem h_book (l : Launch) (D : va_G) (K : gCl) (a : Nat → Nat → Nat) (z : Nat → Nat) (sd ho bk : Nat → Int32) (ow : Nat → Nat → Int32) (pl pn pm : Nat → Int32) (nm : Nat → Nat → Int32) (cn : Nat → Int32) (co : Nat) (qu : Nat → Nat) (B mh : Nat) (fl : Int32) (q : List Pty) (li : List Nat) (n mo : Int32) (sz : Nat) (hz : ∀ i, i < 10 → z i ≤ 20) (hB40 : B ≤ 40) (hq8 : q.length ≤ 8) (hmh6 : mh ≤ 6) (hM : PM qu co) (hPs : PQ pl pn pm nm qu 0 q) (hlc : pl co = nI li.length) (hLc : isL (nm co) li) : gMi l yX2_book wsX2_book ({ frames := 14, cells := 0, slots := 0, locals := 420 } : Room) D vwCl (gT K) [.ref (a 0 0), .int n, .int mo] (hW K a z sd ho bk ow pl pn pm nm cn co qu (nI B) (nI q.length) (nI mh) fl) sz (RP K (a 0 0) (opBook z sd ow cn B q li mh fl n mo)) 0 0 := by
  refine g_of (cc := cX2_book) (maxL := 4) (ret := (some .int)) (Qc := fun A => va_Qi (RP K (a 0 0) (opBook z sd ow cn B q li mh fl n mo)) (gB D vwCl (gT K) A) A) (by decide) rfl (Nat.le_of_ble_eq_true rfl) ?_
  intro p e s m below meth c A ls I hl
  have I0 := I
  obtain ⟨hx, hb, hr, hml, hown, hts, hlocks, hnm, hA, hK, hP, hD, hS⟩ := I
  have hown : s.vm.findClass RX2 = some m.cls := hown
  have hl : lv_has ls 4 [(0, .ref (a 0 0)), (1, .int n), (2, .int mo)] := hl
  have hi_X2 : ∀ w ∈ u_ws RX2 TX2 8, w ∈ wsX2_book := by decide +kernel
  have hi_X0 : ∀ w ∈ u_ws RX0 TX0 4, w ∈ wsX2_book := by decide +kernel
  have hco := hM.2.1
  have hLc6 := hLc.1
  refine lv_iload_n hx hb dX2_book_0 rfl (lv_at hl 1 rfl) ?_
  refine lv_iconst (v := 1) hx hb dX2_book_1 (by decide) ?_
  refine lv_icmp_lt (tgt := 20) hx hb dX2_book_2 (by decide) (fun c2 => ?_) (fun c2 => ?_)
  · refine lv_iconst (v := -1) hx hb dX2_book_20 (by decide) ?_
    exact g_iret hx hb hr hlocks (Nat.le_of_ble_eq_true rfl) (Nat.le_of_ble_eq_true rfl) hK hP hD hS dX2_book_21 (by unfold opBook; rw [if_neg (fun h => by simp only [inRow, Int32.le_iff_toInt_le, Int32.lt_iff_toInt_lt, gl_m1, gl_0, gl_1, gl_2, gl_3, gl_5, gl_6, gl_8, gl_9, gl_10, gl_11, gl_20, gl_40, gl_60] at h c2; omega)]; exact ⟨rfl, ⟨a, ho, bk, pl, pn, pm, nm, co, qu, rfl, rfl, hM, hPs, hlc, hLc⟩⟩)
  · refine lv_iload_n hx hb dX2_book_5 rfl (lv_at hl 1 rfl) ?_
    refine lv_bipush (v := 60) hx hb dX2_book_6 (by decide) ?_
    refine lv_icmp_gt (tgt := 20) hx hb dX2_book_8 (by decide) (fun c8 => ?_) (fun c8 => ?_)
    · refine lv_iconst (v := -1) hx hb dX2_book_20 (by decide) ?_
      exact g_iret hx hb hr hlocks (Nat.le_of_ble_eq_true rfl) (Nat.le_of_ble_eq_true rfl) hK hP hD hS dX2_book_21 (by unfold opBook; rw [if_neg (fun h => by simp only [inRow, Int32.le_iff_toInt_le, Int32.lt_iff_toInt_lt, gl_m1, gl_0, gl_1, gl_2, gl_3, gl_5, gl_6, gl_8, gl_9, gl_10, gl_11, gl_20, gl_40, gl_60] at h c2 c8; omega)]; exact ⟨rfl, ⟨a, ho, bk, pl, pn, pm, nm, co, qu, rfl, rfl, hM, hPs, hlc, hLc⟩⟩)
    · refine lv_iload_n hx hb dX2_book_11 rfl (lv_at hl 2 rfl) ?_
      refine lv_if_lt (tgt := 20) hx hb dX2_book_12 (by decide) (fun c12 => ?_) (fun c12 => ?_)
      · refine lv_iconst (v := -1) hx hb dX2_book_20 (by decide) ?_
        exact g_iret hx hb hr hlocks (Nat.le_of_ble_eq_true rfl) (Nat.le_of_ble_eq_true rfl) hK hP hD hS dX2_book_21 (by unfold opBook; rw [if_neg (fun h => by simp only [inRow, Int32.le_iff_toInt_le, Int32.lt_iff_toInt_lt, gl_m1, gl_0, gl_1, gl_2, gl_3, gl_5, gl_6, gl_8, gl_9, gl_10, gl_11, gl_20, gl_40, gl_60] at h c2 c8 c12; omega)]; exact ⟨rfl, ⟨a, ho, bk, pl, pn, pm, nm, co, qu, rfl, rfl, hM, hPs, hlc, hLc⟩⟩)
      · refine lv_iload_n hx hb dX2_book_15 rfl (lv_at hl 2 rfl) ?_
        refine lv_iconst (v := 2) hx hb dX2_book_16 (by decide) ?_
        refine lv_icmp_le (tgt := 22) hx hb dX2_book_17 (by decide) (fun c17 => ?_) (fun c17 => ?_)
        · refine lv_aload_n hx hb dX2_book_22 rfl (lv_at hl 0 rfl) ?_
          refine va_get (C := RX2) (T := TX2) (N := 8) (ci := 2) hx hb hts hi_X2 hown hK hP (0) (rfl) rfl 3 (by decide) (hts (.fieldLink RX2 26 "GroupSeats" "coming" "LGroupSeats$Party;") (by decide +kernel)) (fun _ h9 => h9) rfl dX2_book_23 ?_
          refine va_get (C := RX0) (T := TX0) (N := 4) (ci := 0) hx hb hts hi_X0 hown hK hP (2 * co + 20 + 4) (hW_par hco) rfl 1 (by decide) (hts (.fieldLink RX2 59 "GroupSeats$Party" "listed" "I") (by decide +kernel)) (fun _ h9 => h9) rfl dX2_book_26 ?_
          refine lv_if_ne (tgt := 35) hx hb dX2_book_29 (by decide) (fun c29 => ?_) (fun c29 => ?_)
          · refine lv_aload_n hx hb dX2_book_35 rfl (lv_at hl 0 rfl) ?_
            refine va_get (C := RX2) (T := TX2) (N := 8) (ci := 2) hx hb hts hi_X2 hown hK hP (0) (rfl) rfl 4 (by decide) (hts (.fieldLink RX2 66 "GroupSeats" "bookings" "I") (by decide +kernel)) (fun _ h9 => h9) rfl dX2_book_36 ?_
            refine lv_bipush (v := 40) hx hb dX2_book_39 (by decide) ?_
            refine lv_icmp_lt (tgt := 47) hx hb dX2_book_41 (by decide) (fun c41 => ?_) (fun c41 => ?_)
            · obtain ⟨n1, hn1, hn2, rfl⟩ := g_ix1 (n := 60) rfl c2 (by simp only [Int32.le_iff_toInt_le, Int32.lt_iff_toInt_lt, gl_m1, gl_0, gl_1, gl_2, gl_3, gl_5, gl_6, gl_8, gl_9, gl_10, gl_11, gl_20, gl_40, gl_60] at c8 ⊢; omega : n ≤ 60)
              have hBl : B < 40 := (nI_ltI (b := 40) (by omega) (by decide)).mp c41
              have hls : li.length ≠ 0 := fun h => c29 (by rw [hlc, h]; rfl)
              have hc1 : (1 ≤ nI n1 ∧ nI n1 ≤ 60) ∧ 0 ≤ mo ∧ mo ≤ 2 := by simp only [Int32.le_iff_toInt_le, Int32.lt_iff_toInt_lt, gl_m1, gl_0, gl_1, gl_2, gl_3, gl_5, gl_6, gl_8, gl_9, gl_10, gl_11, gl_20, gl_40, gl_60] at c2 c8 c12 c17 ⊢; omega
              refine lv_aload_n hx hb dX2_book_47 rfl (lv_at hl 0 rfl) ?_
              refine va_get (C := RX2) (T := TX2) (N := 8) (ci := 2) hx hb hts hi_X2 hown hK hP (0) (rfl) rfl 3 (by decide) (hts (.fieldLink RX2 26 "GroupSeats" "coming" "LGroupSeats$Party;") (by decide +kernel)) (fun _ h9 => h9) rfl dX2_book_48 ?_
              refine lv_iload_n hx hb dX2_book_51 rfl (lv_at hl 1 rfl) ?_
              refine va_put (C := RX0) (T := TX0) (N := 4) (ci := 0) (ty := .int) hx hb hts hi_X0 tyX0 tyX0_ok nmX0 hown hK hP hD hS (2 * co + 20 + 4) (hW_par hco) rfl 2 (by decide) (hts (.fieldLink RX2 69 "GroupSeats$Party" "size" "I") (by decide +kernel)) (fun _ h9 => h9) rfl (by decide +kernel) rfl rfl (Nat.le_of_ble_eq_true rfl) dX2_book_52 (fun H locs hP hD hS => ?_)
              have hP : va_P D vwCl ((hW K a z sd ho bk ow pl pn pm nm cn co qu (nI B) (nI q.length) (nI mh) fl).set (2 * co + 20 + 4) (a 3 co, gPar (a 4 co) (pl co) (nI n1) (pm co))) H := hP
              have hD : va_D A ((hW K a z sd ho bk ow pl pn pm nm cn co qu (nI B) (nI q.length) (nI mh) fl).set (2 * co + 20 + 4) (a 3 co, gPar (a 4 co) (pl co) (nI n1) (pm co))) := hD
              rw [hW_setPn hco] at hP hD
              refine lv_aload_n hx hb dX2_book_55 rfl (lv_at hl 0 rfl) ?_
              refine va_get (C := RX2) (T := TX2) (N := 8) (ci := 2) hx hb hts hi_X2 hown hK hP (0) (rfl) rfl 3 (by decide) (hts (.fieldLink RX2 26 "GroupSeats" "coming" "LGroupSeats$Party;") (by decide +kernel)) (fun _ h9 => h9) rfl dX2_book_56 ?_
              refine lv_iload_n hx hb dX2_book_59 rfl (lv_at hl 2 rfl) ?_
              refine va_put (C := RX0) (T := TX0) (N := 4) (ci := 0) (ty := .int) hx hb hts hi_X0 tyX0 tyX0_ok nmX0 hown hK hP hD hS (2 * co + 20 + 4) (hW_par hco) rfl 3 (by decide) (hts (.fieldLink RX2 70 "GroupSeats$Party" "mode" "I") (by decide +kernel)) (fun _ h9 => h9) rfl (by decide +kernel) rfl rfl (Nat.le_of_ble_eq_true rfl) dX2_book_60 (fun H locs hP hD hS => ?_)
              have hP : va_P D vwCl ((hW K a z sd ho bk ow pl (va_up pn co (nI n1)) pm nm cn co qu (nI B) (nI q.length) (nI mh) fl).set (2 * co + 20 + 4) (a 3 co, gPar (a 4 co) (pl co) ((va_up pn co (nI n1)) co) mo)) H := hP
              have hD : va_D A ((hW K a z sd ho bk ow pl (va_up pn co (nI n1)) pm nm cn co qu (nI B) (nI q.length) (nI mh) fl).set (2 * co + 20 + 4) (a 3 co, gPar (a 4 co) (pl co) ((va_up pn co (nI n1)) co) mo)) := hD
              rw [hW_setPm hco] at hP hD
              refine lv_aload_n hx hb dX2_book_63 rfl (lv_at hl 0 rfl) ?_
              refine lv_aload_n hx hb dX2_book_64 rfl (lv_at hl 0 rfl) ?_
              refine va_get (C := RX2) (T := TX2) (N := 8) (ci := 2) hx hb hts hi_X2 hown hK hP (0) (rfl) rfl 3 (by decide) (hts (.fieldLink RX2 26 "GroupSeats" "coming" "LGroupSeats$Party;") (by decide +kernel)) (fun _ h9 => h9) rfl dX2_book_65 ?_
              refine g_calli (va_runV (As := [.ref _]) (rest := []) ⟨hx, hb, hml, hown, hts⟩ (c_goThrough l D K a z sd ho bk ow pl (va_up pn co (nI n1)) (va_up pm co mo) nm cn co qu B q.length mh fl co n1 mo li _ hco hz hlc hLc (va_up_self _ _ _) hn2 (va_up_self _ _ _) (by omega) (by omega)) (cwV 1 hts gX2_book_X2_goThrough rfl rfl rfl (by decide +kernel) ⟨(Nat.le_of_ble_eq_true rfl), (Nat.le_of_ble_eq_true rfl)⟩) (g_preV hK hP hD (ci := 2) (q0 := 0) rfl (rfl)) rfl rfl hl.1 rfl (lv_room (Nat.le_of_ble_eq_true rfl)) dX2_book_68 ⟨Nat.zero_le _, Nat.zero_le _⟩) hD hS hA (fun r68 wv H locs hw hP hD hS => ?_)
              by_cases hG : (goA z sd (nI B) n1 mo li n1 0 ow mh).1 = 0
              · obtain ⟨er, ho2, bk2, ew⟩ := hw.1 hG
                rw [ew] at hP hD
                rw [er]
                refine lv_istore_n (lv' := [(3, .int _), (0, .ref _), (1, .int _), (2, .int _)]) hx hb dX2_book_71 rfl hl (by decide) rfl (fun ls hl => ?_)
                refine lv_iload_n hx hb dX2_book_72 rfl (lv_at hl 0 rfl) ?_
                refine lv_bipush (v := -4) hx hb dX2_book_73 (by decide) ?_
                refine lv_icmp_ne (tgt := 99) hx hb dX2_book_75 (by decide) (fun c75 => ?_) (fun c75 => ?_)
                · refine lv_aload_n hx hb dX2_book_99 rfl (lv_at hl 1 rfl) ?_
                  refine va_get (C := RX2) (T := TX2) (N := 8) (ci := 2) hx hb hts hi_X2 hown hK hP (0) (rfl) rfl 3 (by decide) (hts (.fieldLink RX2 26 "GroupSeats" "coming" "LGroupSeats$Party;") (by decide +kernel)) (fun _ h9 => h9) rfl dX2_book_100 ?_
                  refine lv_iconst (v := 0) hx hb dX2_book_103 (by decide) ?_
                  refine va_put (C := RX0) (T := TX0) (N := 4) (ci := 0) (ty := .int) hx hb hts hi_X0 tyX0 tyX0_ok nmX0 hown hK hP hD hS (2 * co + 20 + 4) (hW_par hco) rfl 1 (by decide) (hts (.fieldLink RX2 59 "GroupSeats$Party" "listed" "I") (by decide +kernel)) (fun _ h9 => h9) rfl (by decide +kernel) rfl rfl (Nat.le_of_ble_eq_true rfl) dX2_book_104 (fun H locs hP hD hS => ?_)
                  have hP : va_P D vwCl ((hW K a z sd ho2 bk2 (goA z sd (nI B) n1 mo li n1 0 ow mh).2.1 pl (va_up pn co (nI n1)) (va_up pm co mo) nm cn co qu (nI (B + 1)) (nI q.length) (nI (goA z sd (nI B) n1 mo li n1 0 ow mh).2.2) fl).set (2 * co + 20 + 4) (a 3 co, gPar (a 4 co) 0 ((va_up pn co (nI n1)) co) ((va_up pm co mo) co))) H := hP
                  have hD : va_D A ((hW K a z sd ho2 bk2 (goA z sd (nI B) n1 mo li n1 0 ow mh).2.1 pl (va_up pn co (nI n1)) (va_up pm co mo) nm cn co qu (nI (B + 1)) (nI q.length) (nI (goA z sd (nI B) n1 mo li n1 0 ow mh).2.2) fl).set (2 * co + 20 + 4) (a 3 co, gPar (a 4 co) 0 ((va_up pn co (nI n1)) co) ((va_up pm co mo) co))) := hD
                  rw [hW_setPl (hco)] at hP hD
                  refine lv_iload_n hx hb dX2_book_107 rfl (lv_at hl 0 rfl) ?_
                  exact g_iret hx hb hr hlocks (Nat.le_of_ble_eq_true rfl) (Nat.le_of_ble_eq_true rfl) hK hP hD hS dX2_book_108 (by unfold opBook; rw [if_pos hc1, if_neg hls, if_pos hBl, ixN_nI (by omega)]; unfold opGo; rw [if_pos hG]; exact ⟨rfl, a, ho2, bk2, _, _, _, nm, co, qu, rfl, rfl, hM, PQ_l hM hq8 (PQ_n hM hq8 hPs), va_up_self _ _ _, isL_nil⟩)
                · exact absurd (congrArg Int32.toInt c75) (by rw [nI_toInt (by omega), show (-4 : Int32).toInt = -4 from rfl]; omega)
              · obtain ⟨er, ho2, bk2, ew⟩ := hw.2 hG
                rw [ew] at hP hD
                rw [er]
                refine lv_istore_n (lv' := [(3, .int _), (0, .ref _), (1, .int _), (2, .int _)]) hx hb dX2_book_71 rfl hl (by decide) rfl (fun ls hl => ?_)
                refine lv_iload_n hx hb dX2_book_72 rfl (lv_at hl 0 rfl) ?_
                refine lv_bipush (v := -4) hx hb dX2_book_73 (by decide) ?_
                refine lv_icmp_ne (tgt := 99) hx hb dX2_book_75 (by decide) (fun c75 => ?_) (fun c75 => ?_)
                · refine lv_aload_n hx hb dX2_book_99 rfl (lv_at hl 1 rfl) ?_
                  refine va_get (C := RX2) (T := TX2) (N := 8) (ci := 2) hx hb hts hi_X2 hown hK hP (0) (rfl) rfl 3 (by decide) (hts (.fieldLink RX2 26 "GroupSeats" "coming" "LGroupSeats$Party;") (by decide +kernel)) (fun _ h9 => h9) rfl dX2_book_100 ?_
                  refine lv_iconst (v := 0) hx hb dX2_book_103 (by decide) ?_
                  refine va_put (C := RX0) (T := TX0) (N := 4) (ci := 0) (ty := .int) hx hb hts hi_X0 tyX0 tyX0_ok nmX0 hown hK hP hD hS (2 * co + 20 + 4) (hW_par hco) rfl 1 (by decide) (hts (.fieldLink RX2 59 "GroupSeats$Party" "listed" "I") (by decide +kernel)) (fun _ h9 => h9) rfl (by decide +kernel) rfl rfl (Nat.le_of_ble_eq_true rfl) dX2_book_104 (fun H locs hP hD hS => ?_)
                  have hP : va_P D vwCl ((hW K a z sd ho2 bk2 ow pl (va_up pn co (nI n1)) (va_up pm co mo) nm cn co qu (nI B) (nI q.length) (nI (goA z sd (nI B) n1 mo li n1 0 ow mh).2.2) (fl + 1)).set (2 * co + 20 + 4) (a 3 co, gPar (a 4 co) 0 ((va_up pn co (nI n1)) co) ((va_up pm co mo) co))) H := hP
                  have hD : va_D A ((hW K a z sd ho2 bk2 ow pl (va_up pn co (nI n1)) (va_up pm co mo) nm cn co qu (nI B) (nI q.length) (nI (goA z sd (nI B) n1 mo li n1 0 ow mh).2.2) (fl + 1)).set (2 * co + 20 + 4) (a 3 co, gPar (a 4 co) 0 ((va_up pn co (nI n1)) co) ((va_up pm co mo) co))) := hD
                  rw [hW_setPl (hco)] at hP hD
                  refine lv_iload_n hx hb dX2_book_107 rfl (lv_at hl 0 rfl) ?_
                  exact g_iret hx hb hr hlocks (Nat.le_of_ble_eq_true rfl) (Nat.le_of_ble_eq_true rfl) hK hP hD hS dX2_book_108 (by unfold opBook; rw [if_pos hc1, if_neg hls, if_pos hBl, ixN_nI (by omega)]; unfold opGo; rw [if_neg hG, if_neg (fun h => c75 h.1)]; exact ⟨rfl, a, ho2, bk2, _, _, _, nm, co, qu, rfl, rfl, hM, PQ_l hM hq8 (PQ_n hM hq8 hPs), va_up_self _ _ _, isL_nil⟩)
                · refine lv_iload_n hx hb dX2_book_78 rfl (lv_at hl 3 rfl) ?_
                  refine lv_iconst (v := 2) hx hb dX2_book_79 (by decide) ?_
                  refine lv_icmp_ne (tgt := 99) hx hb dX2_book_80 (by decide) (fun c80 => ?_) (fun c80 => ?_)
                  · refine lv_aload_n hx hb dX2_book_99 rfl (lv_at hl 1 rfl) ?_
                    refine va_get (C := RX2) (T := TX2) (N := 8) (ci := 2) hx hb hts hi_X2 hown hK hP (0) (rfl) rfl 3 (by decide) (hts (.fieldLink RX2 26 "GroupSeats" "coming" "LGroupSeats$Party;") (by decide +kernel)) (fun _ h9 => h9) rfl dX2_book_100 ?_
                    refine lv_iconst (v := 0) hx hb dX2_book_103 (by decide) ?_
                    refine va_put (C := RX0) (T := TX0) (N := 4) (ci := 0) (ty := .int) hx hb hts hi_X0 tyX0 tyX0_ok nmX0 hown hK hP hD hS (2 * co + 20 + 4) (hW_par hco) rfl 1 (by decide) (hts (.fieldLink RX2 59 "GroupSeats$Party" "listed" "I") (by decide +kernel)) (fun _ h9 => h9) rfl (by decide +kernel) rfl rfl (Nat.le_of_ble_eq_true rfl) dX2_book_104 (fun H locs hP hD hS => ?_)
                    have hP : va_P D vwCl ((hW K a z sd ho2 bk2 ow pl (va_up pn co (nI n1)) (va_up pm co mo) nm cn co qu (nI B) (nI q.length) (nI (goA z sd (nI B) n1 mo li n1 0 ow mh).2.2) (fl + 1)).set (2 * co + 20 + 4) (a 3 co, gPar (a 4 co) 0 ((va_up pn co (nI n1)) co) ((va_up pm co mo) co))) H := hP
                    have hD : va_D A ((hW K a z sd ho2 bk2 ow pl (va_up pn co (nI n1)) (va_up pm co mo) nm cn co qu (nI B) (nI q.length) (nI (goA z sd (nI B) n1 mo li n1 0 ow mh).2.2) (fl + 1)).set (2 * co + 20 + 4) (a 3 co, gPar (a 4 co) 0 ((va_up pn co (nI n1)) co) ((va_up pm co mo) co))) := hD
                    rw [hW_setPl (hco)] at hP hD
                    refine lv_iload_n hx hb dX2_book_107 rfl (lv_at hl 0 rfl) ?_
                    exact g_iret hx hb hr hlocks (Nat.le_of_ble_eq_true rfl) (Nat.le_of_ble_eq_true rfl) hK hP hD hS dX2_book_108 (by unfold opBook; rw [if_pos hc1, if_neg hls, if_pos hBl, ixN_nI (by omega)]; unfold opGo; rw [if_neg hG, if_neg (fun h => c80 h.2.1)]; exact ⟨rfl, a, ho2, bk2, _, _, _, nm, co, qu, rfl, rfl, hM, PQ_l hM hq8 (PQ_n hM hq8 hPs), va_up_self _ _ _, isL_nil⟩)
                  · refine lv_aload_n hx hb dX2_book_83 rfl (lv_at hl 1 rfl) ?_
                    refine va_get (C := RX2) (T := TX2) (N := 8) (ci := 2) hx hb hts hi_X2 hown hK hP (0) (rfl) rfl 5 (by decide) (hts (.fieldLink RX2 77 "GroupSeats" "waiters" "I") (by decide +kernel)) (fun _ h9 => h9) rfl dX2_book_84 ?_
                    refine lv_bipush (v := 8) hx hb dX2_book_87 (by decide) ?_
                    refine lv_icmp_ge (tgt := 99) hx hb dX2_book_89 (by decide) (fun c89 => ?_) (fun c89 => ?_)
                    · refine lv_aload_n hx hb dX2_book_99 rfl (lv_at hl 1 rfl) ?_
                      refine va_get (C := RX2) (T := TX2) (N := 8) (ci := 2) hx hb hts hi_X2 hown hK hP (0) (rfl) rfl 3 (by decide) (hts (.fieldLink RX2 26 "GroupSeats" "coming" "LGroupSeats$Party;") (by decide +kernel)) (fun _ h9 => h9) rfl dX2_book_100 ?_
                      refine lv_iconst (v := 0) hx hb dX2_book_103 (by decide) ?_
                      refine va_put (C := RX0) (T := TX0) (N := 4) (ci := 0) (ty := .int) hx hb hts hi_X0 tyX0 tyX0_ok nmX0 hown hK hP hD hS (2 * co + 20 + 4) (hW_par hco) rfl 1 (by decide) (hts (.fieldLink RX2 59 "GroupSeats$Party" "listed" "I") (by decide +kernel)) (fun _ h9 => h9) rfl (by decide +kernel) rfl rfl (Nat.le_of_ble_eq_true rfl) dX2_book_104 (fun H locs hP hD hS => ?_)
                      have hP : va_P D vwCl ((hW K a z sd ho2 bk2 ow pl (va_up pn co (nI n1)) (va_up pm co mo) nm cn co qu (nI B) (nI q.length) (nI (goA z sd (nI B) n1 mo li n1 0 ow mh).2.2) (fl + 1)).set (2 * co + 20 + 4) (a 3 co, gPar (a 4 co) 0 ((va_up pn co (nI n1)) co) ((va_up pm co mo) co))) H := hP
                      have hD : va_D A ((hW K a z sd ho2 bk2 ow pl (va_up pn co (nI n1)) (va_up pm co mo) nm cn co qu (nI B) (nI q.length) (nI (goA z sd (nI B) n1 mo li n1 0 ow mh).2.2) (fl + 1)).set (2 * co + 20 + 4) (a 3 co, gPar (a 4 co) 0 ((va_up pn co (nI n1)) co) ((va_up pm co mo) co))) := hD
                      rw [hW_setPl (hco)] at hP hD
                      refine lv_iload_n hx hb dX2_book_107 rfl (lv_at hl 0 rfl) ?_
                      exact g_iret hx hb hr hlocks (Nat.le_of_ble_eq_true rfl) (Nat.le_of_ble_eq_true rfl) hK hP hD hS dX2_book_108 (by unfold opBook; rw [if_pos hc1, if_neg hls, if_pos hBl, ixN_nI (by omega)]; unfold opGo; rw [if_neg hG, if_neg (fun h => absurd ((nI_leI (a := 8) (by decide) (by omega)).mp c89) (by omega))]; exact ⟨rfl, a, ho2, bk2, _, _, _, nm, co, qu, rfl, rfl, hM, PQ_l hM hq8 (PQ_n hM hq8 hPs), va_up_self _ _ _, isL_nil⟩)
                    · have hq7 : q.length < 8 := Nat.lt_of_not_le (fun h => c89 (nI_le (a := 8) h (by omega)))
                      refine lv_aload_n hx hb dX2_book_92 rfl (lv_at hl 1 rfl) ?_
                      refine g_callv (va_runV (As := []) (rest := []) ⟨hx, hb, hml, hown, hts⟩ (c_queueUp l D K a z sd ho2 bk2 ow pl (va_up pn co (nI n1)) (va_up pm co mo) nm cn co qu B q.length (goA z sd (nI B) n1 mo li n1 0 ow mh).2.2 (fl + 1) _ hM hq7) (cwV 0 hts gX2_book_X2_queueUp rfl rfl rfl (by decide +kernel) ⟨(Nat.le_of_ble_eq_true rfl), (Nat.le_of_ble_eq_true rfl)⟩) (g_preV hK hP hD (ci := 2) (q0 := 0) rfl (rfl)) rfl rfl hl.1 rfl (lv_room (Nat.le_of_ble_eq_true rfl)) dX2_book_93 ⟨Nat.zero_le _, Nat.zero_le _⟩) hD hS hA (fun wv H locs hw hP hD hS => ?_)
                      rw [hw] at hP hD
                      refine lv_bipush (v := -7) hx hb dX2_book_96 (by decide) ?_
                      refine lv_istore_n (lv' := [(3, .int _), (0, .ref _), (1, .int _), (2, .int _)]) hx hb dX2_book_98 rfl hl (by decide) rfl (fun ls hl => ?_)
                      refine lv_aload_n hx hb dX2_book_99 rfl (lv_at hl 1 rfl) ?_
                      refine va_get (C := RX2) (T := TX2) (N := 8) (ci := 2) hx hb hts hi_X2 hown hK hP (0) (rfl) rfl 3 (by decide) (hts (.fieldLink RX2 26 "GroupSeats" "coming" "LGroupSeats$Party;") (by decide +kernel)) (fun _ h9 => h9) rfl dX2_book_100 ?_
                      refine lv_iconst (v := 0) hx hb dX2_book_103 (by decide) ?_
                      refine va_put (C := RX0) (T := TX0) (N := 4) (ci := 0) (ty := .int) hx hb hts hi_X0 tyX0 tyX0_ok nmX0 hown hK hP hD hS (2 * (qu q.length) + 20 + 4) (hW_par (hM.1 _ (by omega))) rfl 1 (by decide) (hts (.fieldLink RX2 59 "GroupSeats$Party" "listed" "I") (by decide +kernel)) (fun _ h9 => h9) rfl (by decide +kernel) rfl rfl (Nat.le_of_ble_eq_true rfl) dX2_book_104 (fun H locs hP hD hS => ?_)
                      have hP : va_P D vwCl ((hW K a z sd ho2 bk2 ow pl (va_up pn co (nI n1)) (va_up pm co mo) nm cn (qu q.length) (va_up qu q.length co) (nI B) (nI (q.length + 1)) (nI (goA z sd (nI B) n1 mo li n1 0 ow mh).2.2) (fl + 1)).set (2 * (qu q.length) + 20 + 4) (a 3 (qu q.length), gPar (a 4 (qu q.length)) 0 ((va_up pn co (nI n1)) (qu q.length)) ((va_up pm co mo) (qu q.length)))) H := hP
                      have hD : va_D A ((hW K a z sd ho2 bk2 ow pl (va_up pn co (nI n1)) (va_up pm co mo) nm cn (qu q.length) (va_up qu q.length co) (nI B) (nI (q.length + 1)) (nI (goA z sd (nI B) n1 mo li n1 0 ow mh).2.2) (fl + 1)).set (2 * (qu q.length) + 20 + 4) (a 3 (qu q.length), gPar (a 4 (qu q.length)) 0 ((va_up pn co (nI n1)) (qu q.length)) ((va_up pm co mo) (qu q.length)))) := hD
                      rw [hW_setPl (hM.1 _ (by omega))] at hP hD
                      refine lv_iload_n hx hb dX2_book_107 rfl (lv_at hl 0 rfl) ?_
                      exact g_iret hx hb hr hlocks (Nat.le_of_ble_eq_true rfl) (Nat.le_of_ble_eq_true rfl) hK hP hD hS dX2_book_108 (by unfold opBook; rw [if_pos hc1, if_neg hls, if_pos hBl, ixN_nI (by omega)]; unfold opGo; rw [if_neg hG, if_pos ⟨c75, c80, hq7⟩]; exact ⟨rfl, a, ho2, bk2, _, _, _, nm, _, _, rfl, by rw [List.length_append]; rfl, PM_que hM hq7, PQ_que hM hq7 (PQ_n hM hq8 hPs) ⟨hlc, va_up_self _ _ _, (va_up_self _ _ _).trans c80, hLc, hn1, hn2⟩, va_up_self _ _ _, isL_nil⟩)
            · refine lv_bipush (v := -3) hx hb dX2_book_44 (by decide) ?_
              exact g_iret hx hb hr hlocks (Nat.le_of_ble_eq_true rfl) (Nat.le_of_ble_eq_true rfl) hK hP hD hS dX2_book_46 (by have hc1 : (1 ≤ n ∧ n ≤ 60) ∧ 0 ≤ mo ∧ mo ≤ 2 := (by simp only [Int32.le_iff_toInt_le, Int32.lt_iff_toInt_lt, gl_m1, gl_0, gl_1, gl_2, gl_3, gl_5, gl_6, gl_8, gl_9, gl_10, gl_11, gl_20, gl_40, gl_60] at c2 c8 c12 c17 ⊢; omega); have hls : li.length ≠ 0 := (fun h => c29 (by rw [hlc, h]; rfl)); unfold opBook; rw [if_pos hc1, if_neg hls, if_neg (fun h => c41 (nI_lt (b := 40) h (by decide)))]; exact ⟨rfl, ⟨a, ho, bk, pl, pn, pm, nm, co, qu, rfl, rfl, hM, hPs, hlc, hLc⟩⟩)
          · refine lv_bipush (v := -2) hx hb dX2_book_32 (by decide) ?_
            exact g_iret hx hb hr hlocks (Nat.le_of_ble_eq_true rfl) (Nat.le_of_ble_eq_true rfl) hK hP hD hS dX2_book_34 (by have hc1 : (1 ≤ n ∧ n ≤ 60) ∧ 0 ≤ mo ∧ mo ≤ 2 := (by simp only [Int32.le_iff_toInt_le, Int32.lt_iff_toInt_lt, gl_m1, gl_0, gl_1, gl_2, gl_3, gl_5, gl_6, gl_8, gl_9, gl_10, gl_11, gl_20, gl_40, gl_60] at c2 c8 c12 c17 ⊢; omega); have hls : li.length = 0 := (nI_eq (by omega) (by decide)).mp (hlc.symm.trans c29); unfold opBook; rw [if_pos hc1, if_pos hls]; exact ⟨rfl, ⟨a, ho, bk, pl, pn, pm, nm, co, qu, rfl, rfl, hM, hPs, hlc, hLc⟩⟩)
        · refine lv_iconst (v := -1) hx hb dX2_book_20 (by decide) ?_
          exact g_iret hx hb hr hlocks (Nat.le_of_ble_eq_true rfl) (Nat.le_of_ble_eq_true rfl) hK hP hD hS dX2_book_21 (by unfold opBook; rw [if_neg (fun h => by simp only [inRow, Int32.le_iff_toInt_le, Int32.lt_iff_toInt_lt, gl_m1, gl_0, gl_1, gl_2, gl_3, gl_5, gl_6, gl_8, gl_9, gl_10, gl_11, gl_20, gl_40, gl_60] at h c2 c8 c12 c17; omega)]; exact ⟨rfl, ⟨a, ho, bk, pl, pn, pm, nm, co, qu, rfl, rfl, hM, hPs, hlc, hLc⟩⟩)
set_option maxHeartbeats 4000000 in
set_option maxRecDepth 100000 in
theorem lp_cancel {p : Program} {l : Launch} {e : Env} {s : State} {m : MethodId} {args : Array Value} {below : List Frame} {meth : Method} {c : Code} {A : Nat → Prop} {D : va_G} {K : gCl} {ws0 : va_W} {a : Nat → Nat → Nat} {z : Nat → Nat} {sd ho bk : Nat → Int32} {ow : Nat → Nat → Int32} {pl pn pm : Nat → Int32} {nm : Nat → Nat → Int32} {cn : Nat → Int32} {co : Nat} {qu : Nat → Nat} {B wt mh fl x : Int32} {post : Int32 → va_W → Prop} (hz : ∀ i, i < 10 → z i ≤ 20)
    (I : gIn p s m meth c A yX2_cancel wsX2_cancel cX2_cancel 3 (some .int) args D vwCl (gT K) ws0) (hE : ∀ (H : Heap) (locs : List Loc), va_P D vwCl (hW K a z sd ho bk (fo z ow x 10) pl pn pm nm cn co qu B wt mh fl) H → va_D A (hW K a z sd ho bk (fo z ow x 10) pl pn pm nm cn co qu B wt mh fl) → va_S A s.heap H locs → ∀ (ls : Array Slot), lv_has ls 3 [(2, .int (nI 10)), (0, .ref (a 0 0)), (1, .int x)] → W p l e ({ frames := 14, cells := 0, slots := 0, locals := 420 } : Room) s m args below meth c H locs 0 0 (MQ below (va_Qi (post) (gB D vwCl (gT K) A) A) args s 0 0 A) (F0 m 53 ls [])) :
    ∀ (k : Nat) (i : Nat) (H : Heap) (locs : List Loc), i + k = 10 → va_P D vwCl (hW K a z sd ho bk (fo z ow x i) pl pn pm nm cn co qu B wt mh fl) H → va_D A (hW K a z sd ho bk (fo z ow x i) pl pn pm nm cn co qu B wt mh fl) → va_S A s.heap H locs →
    ∀ (ls : Array Slot), lv_has ls 3 [(2, .int (nI i)), (0, .ref (a 0 0)), (1, .int x)] →
    W p l e ({ frames := 14, cells := 0, slots := 0, locals := 420 } : Room) s m args below meth c H locs 0 0 (MQ below (va_Qi (post) (gB D vwCl (gT K) A) A) args s 0 0 A) (F0 m 31 ls []) := by
  have I0 := I
  obtain ⟨hx, hb, hr, hml, hown, hts, hlocks, hnm, hA, hK, -, -, -⟩ := I
  have hown : s.vm.findClass RX2 = some m.cls := hown
  have hi_X2 : ∀ w ∈ u_ws RX2 TX2 8, w ∈ wsX2_cancel := by decide +kernel
  intro k
  induction k with
  | zero =>
    intro i H locs hi hP hD hS ls hl
    refine lv_iload_n hx hb dX2_cancel_31 rfl (lv_at hl 0 rfl) ?_
    refine lv_bipush (v := 10) hx hb dX2_cancel_32 (by decide) ?_
    refine lv_icmp_ge (tgt := 53) hx hb dX2_cancel_34 (by decide) (fun c34 => ?_) (fun c34 => ?_)
    · have hi10 : i = 10 := by omega
      subst hi10
      exact hE _ _ hP hD hS ls hl
    · exact absurd (nI_le (a := 10) (by omega) (by omega)) c34
  | succ k ih =>
    intro i H locs hi hP hD hS ls hl
    refine lv_iload_n hx hb dX2_cancel_31 rfl (lv_at hl 0 rfl) ?_
    refine lv_bipush (v := 10) hx hb dX2_cancel_32 (by decide) ?_
    refine lv_icmp_ge (tgt := 53) hx hb dX2_cancel_34 (by decide) (fun c34 => ?_) (fun c34 => ?_)
    · exact absurd c34 (nI_ge (b := 10) (by omega) (by decide))
    · refine lv_aload_n hx hb dX2_cancel_37 rfl (lv_at hl 1 rfl) ?_
      refine va_get (C := RX2) (T := TX2) (N := 8) (ci := 2) hx hb hts hi_X2 hown hK hP (0) (rfl) rfl 0 (by decide) (hts (.fieldLink RX2 11 "GroupSeats" "rows" "[LGroupSeats$Row;") (by decide +kernel)) (fun _ h9 => h9) rfl dX2_cancel_38 ?_
      refine lv_iload_n hx hb dX2_cancel_41 rfl (lv_at hl 0 rfl) ?_
      refine g_aldq hx hb hK hP (1) 2 (rfl) rfl (vp_in_nI (show i < 10 by omega) (by decide)) (gRf_at (show i < 10 by omega) (by decide)) dX2_cancel_42 ?_
      refine lv_iload_n hx hb dX2_cancel_43 rfl (lv_at hl 2 rfl) ?_
      refine g_callv (va_runV (As := [.int _]) (rest := []) ⟨hx, hb, hml, hown, hts⟩ (c_freeSeatsOf l D K _ (a 1 i) (a 2 i) (2 * i + 4) (2 * i + 1 + 4) (z i) (sd i) (ho i) (bk i) (fo z ow x i i) x _ (by omega) (hz i (by omega)) (hW_row (by omega)) (hW_own (by omega))) (cwV 1 hts gX2_cancel_X1_freeSeatsOf rfl rfl rfl (by decide +kernel) ⟨(Nat.le_of_ble_eq_true rfl), (Nat.le_of_ble_eq_true rfl)⟩) (g_preV hK hP hD (ci := 1) (q0 := 2 * i + 4) rfl (hW_row (by omega))) rfl rfl hl.1 rfl (lv_room (Nat.le_of_ble_eq_true rfl)) dX2_cancel_44 ⟨Nat.zero_le _, Nat.zero_le _⟩) hD hS hA (fun wv H locs hw hP hD hS => ?_)
      rw [hw, hW_setOwn (by omega), fo_at, fo_up] at hP hD
      refine lv_iinc (lv' := [(2, .int _), (0, .ref _), (1, .int _)]) hx hb dX2_cancel_47 hl (k := 0) rfl rfl (by decide) rfl (fun ls hl => ?_)
      refine lv_goto (tgt := 31) hx hb dX2_cancel_50 (by decide) ?_
      rw [g_inc] at hl
      exact ih (i + 1) H locs (by omega) hP hD hS ls (lv_sub hl [0, 1, 2] rfl)
set_option maxHeartbeats 4000000 in
set_option maxRecDepth 100000 in
/-- cancel -/
theorem h_cancel (l : Launch) (D : va_G) (K : gCl) (a : Nat → Nat → Nat) (z : Nat → Nat) (sd ho bk : Nat → Int32) (ow : Nat → Nat → Int32) (pl pn pm : Nat → Int32) (nm : Nat → Nat → Int32) (cn : Nat → Int32) (co : Nat) (qu : Nat → Nat) (B mh : Nat) (fl : Int32) (q : List Pty) (li : List Nat) (x : Int32) (sz : Nat) (hz : ∀ i, i < 10 → z i ≤ 20) (hB40 : B ≤ 40) (hq8 : q.length ≤ 8) (hmh6 : mh ≤ 6) (hM : PM qu co) (hPs : PQ pl pn pm nm qu 0 q) (hlc : pl co = nI li.length) (hLc : isL (nm co) li) : gMi l yX2_cancel wsX2_cancel ({ frames := 14, cells := 0, slots := 0, locals := 420 } : Room) D vwCl (gT K) [.ref (a 0 0), .int x] (hW K a z sd ho bk ow pl pn pm nm cn co qu (nI B) (nI q.length) (nI mh) fl) sz (RP K (a 0 0) (opCancel z sd ow cn B q li mh fl x)) 0 0 := by
  refine g_of (cc := cX2_cancel) (maxL := 3) (ret := (some .int)) (Qc := fun A => va_Qi (RP K (a 0 0) (opCancel z sd ow cn B q li mh fl x)) (gB D vwCl (gT K) A) A) (by decide) rfl (Nat.le_of_ble_eq_true rfl) ?_
  intro p e s m below meth c A ls I hl
  have I0 := I
  obtain ⟨hx, hb, hr, hml, hown, hts, hlocks, hnm, hA, hK, hP, hD, hS⟩ := I
  have hown : s.vm.findClass RX2 = some m.cls := hown
  have hl : lv_has ls 3 [(0, .ref (a 0 0)), (1, .int x)] := hl
  have hi_X2 : ∀ w ∈ u_ws RX2 TX2 8, w ∈ wsX2_cancel := by decide +kernel
  refine lv_aload_n hx hb dX2_cancel_0 rfl (lv_at hl 0 rfl) ?_
  refine lv_iload_n hx hb dX2_cancel_1 rfl (lv_at hl 1 rfl) ?_
  refine g_calli (va_runV (As := [.int _]) (rest := []) ⟨hx, hb, hml, hown, hts⟩ (c_isBooking l D K _ (a 0 0) (a 0 1) (a 0 2) (a 0 3) (a 3 co) (nI B) (nI q.length) (nI mh) fl _ _ rfl) (cwV 1 hts gX2_cancel_X2_isBooking rfl rfl rfl (by decide +kernel) ⟨(Nat.le_of_ble_eq_true rfl), (Nat.le_of_ble_eq_true rfl)⟩) (g_preV hK hP hD (ci := 2) (q0 := 0) rfl (rfl)) rfl rfl hl.1 rfl (lv_room (Nat.le_of_ble_eq_true rfl)) dX2_cancel_2 ⟨Nat.zero_le _, Nat.zero_le _⟩) hD hS hA (fun r2 wv H locs hw hP hD hS => ?_)
  obtain ⟨ew, e2⟩ := hw
  rw [ew] at hP hD
  refine lv_if_ne (tgt := 10) hx hb dX2_cancel_5 (by decide) (fun c5 => ?_) (fun c5 => ?_)
  · simp only [e2, Classical.not_not] at c5
    obtain ⟨b1, hb1, rfl⟩ := g_ixn (n := B) (by omega) c5
    refine lv_aload_n hx hb dX2_cancel_10 rfl (lv_at hl 0 rfl) ?_
    refine va_get (C := RX2) (T := TX2) (N := 8) (ci := 2) hx hb hts hi_X2 hown hK hP (0) (rfl) rfl 1 (by decide) (hts (.fieldLink RX2 15 "GroupSeats" "cancelled" "[Z") (by decide +kernel)) (fun _ h9 => h9) rfl dX2_cancel_11 ?_
    refine lv_iload_n hx hb dX2_cancel_14 rfl (lv_at hl 1 rfl) ?_
    refine va_zald hx hb hK hP (2) 1 (rfl) rfl (vp_in_nI (show b1 < 40 by omega) (by decide)) dX2_cancel_15 ?_
    refine lv_if_eq (tgt := 22) hx hb dX2_cancel_16 (by decide) (fun c16 => ?_) (fun c16 => ?_)
    · refine lv_aload_n hx hb dX2_cancel_22 rfl (lv_at hl 0 rfl) ?_
      refine va_get (C := RX2) (T := TX2) (N := 8) (ci := 2) hx hb hts hi_X2 hown hK hP (0) (rfl) rfl 1 (by decide) (hts (.fieldLink RX2 15 "GroupSeats" "cancelled" "[Z") (by decide +kernel)) (fun _ h9 => h9) rfl dX2_cancel_23 ?_
      refine lv_iload_n hx hb dX2_cancel_26 rfl (lv_at hl 1 rfl) ?_
      refine lv_iconst (v := 1) hx hb dX2_cancel_27 (by decide) ?_
      refine va_zast hx hb hK hP hD hS (2) 1 (rfl) rfl (vp_in_nI (show b1 < 40 by omega) (by decide)) dX2_cancel_28 (fun H locs hP hD hS => ?_)
      rw [nI_clamp (by omega), show vp_nar .boolean 1 = 1 from rfl] at hP hD
      have hP : va_P D vwCl (hW K a z sd ho bk ow pl pn pm nm (upd cn b1 1) co qu (nI B) (nI q.length) (nI mh) fl) H := hP
      have hD : va_D A (hW K a z sd ho bk ow pl pn pm nm (upd cn b1 1) co qu (nI B) (nI q.length) (nI mh) fl) := hD
      refine lv_iconst (v := 0) hx hb dX2_cancel_29 (by decide) ?_
      refine lv_istore_n (lv' := [(2, .int _), (0, .ref _), (1, .int _)]) hx hb dX2_cancel_30 rfl hl (by decide) rfl (fun ls hl => ?_)
      rw [nI_clamp (by omega)] at c16
      refine lp_cancel (x := nI b1) hz I0 ?_ 10 0 _ _ (by omega) (by rw [fo_0]; exact hP) (by rw [fo_0]; exact hD) hS ls (lv_sub hl [0, 1, 2] rfl)
      intro H locs hP hD hS ls hl
      refine lv_aload_n hx hb dX2_cancel_53 rfl (lv_at hl 1 rfl) ?_
      refine g_calli (va_runV (As := []) (rest := []) ⟨hx, hb, hml, hown, hts⟩ (c_try l D K a z sd ho bk (fo z ow (nI b1) 10) pl pn pm nm (upd cn b1 1) co qu B mh fl q _ hz hq8 hB40 hmh6 hM hPs) (cwV 0 hts gX2_cancel_X2_tryThoseWaiting rfl rfl rfl (by decide +kernel) ⟨(Nat.le_of_ble_eq_true rfl), (Nat.le_of_ble_eq_true rfl)⟩) (g_preV hK hP hD (ci := 2) (q0 := 0) rfl (rfl)) rfl rfl hl.1 rfl (lv_room (Nat.le_of_ble_eq_true rfl)) dX2_cancel_54 ⟨Nat.zero_le _, Nat.zero_le _⟩) hD hS hA (fun r54 wv H locs hw hP hD hS => ?_)
      obtain ⟨er, ho2, bk2, qu2, ew, hM2, hPs2⟩ := hw
      rw [ew] at hP hD
      exact g_iret hx hb hr hlocks (Nat.le_of_ble_eq_true rfl) (Nat.le_of_ble_eq_true rfl) hK hP hD hS dX2_cancel_57 (by unfold opCancel; rw [if_pos c5, ixN_nI (by omega), if_pos c16]; exact ⟨er, a, ho2, bk2, pl, pn, pm, nm, co, qu2, rfl, rfl, hM2, hPs2, hlc, hLc⟩)
    · refine lv_bipush (v := -2) hx hb dX2_cancel_19 (by decide) ?_
      exact g_iret hx hb hr hlocks (Nat.le_of_ble_eq_true rfl) (Nat.le_of_ble_eq_true rfl) hK hP hD hS dX2_cancel_21 (by rw [nI_clamp (by omega)] at c16; unfold opCancel; rw [if_pos c5, ixN_nI (by omega), if_neg c16]; exact ⟨rfl, ⟨a, ho, bk, pl, pn, pm, nm, co, qu, rfl, rfl, hM, hPs, hlc, hLc⟩⟩)
  · simp only [e2, Classical.not_not] at c5
    refine lv_iconst (v := -1) hx hb dX2_cancel_8 (by decide) ?_
    exact g_iret hx hb hr hlocks (Nat.le_of_ble_eq_true rfl) (Nat.le_of_ble_eq_true rfl) hK hP hD hS dX2_cancel_9 (by unfold opCancel; rw [if_neg c5]; exact ⟨rfl, ⟨a, ho, bk, pl, pn, pm, nm, co, qu, rfl, rfl, hM, hPs, hlc, hLc⟩⟩)
set_option maxHeartbeats 4000000 in
set_option maxRecDepth 100000 in
theorem lp_leave {p : Program} {l : Launch} {e : Env} {s : State} {m : MethodId} {args : Array Value} {below : List Frame} {meth : Method} {c : Code} {A : Nat → Prop} {D : va_G} {K : gCl} {ws0 : va_W} {a : Nat → Nat → Nat} {z : Nat → Nat} {sd ho bk : Nat → Int32} {ow : Nat → Nat → Int32} {pl pn pm : Nat → Int32} {nm : Nat → Nat → Int32} {cn : Nat → Int32} {co : Nat} {qu : Nat → Nat} {B mh fl x : Int32} {n k0 : Nat} {post : Int32 → va_W → Prop} (hM : PM qu co) (hn : n < 8)
    (I : gIn p s m meth c A yX2_leave wsX2_leave cX2_leave 4 (some .int) args D vwCl (gT K) ws0) (hE : ∀ (H : Heap) (locs : List Loc), va_P D vwCl (hW K a z sd ho bk ow pl pn pm nm cn co (shf qu k0 n) B (nI n) mh fl) H → va_D A (hW K a z sd ho bk ow pl pn pm nm cn co (shf qu k0 n) B (nI n) mh fl) → va_S A s.heap H locs → ∀ (ls : Array Slot), lv_has ls 4 [(3, .int (nI n)), (2, .ref (a 3 (qu k0))), (0, .ref (a 0 0)), (1, .int x)] → W p l e ({ frames := 14, cells := 0, slots := 0, locals := 420 } : Room) s m args below meth c H locs 0 0 (MQ below (va_Qi (post) (gB D vwCl (gT K) A) A) args s 0 0 A) (F0 m 57 ls [])) :
    ∀ (k : Nat) (i : Nat) (H : Heap) (locs : List Loc), i + k = n → k0 ≤ i → va_P D vwCl (hW K a z sd ho bk ow pl pn pm nm cn co (shf qu k0 i) B (nI n) mh fl) H → va_D A (hW K a z sd ho bk ow pl pn pm nm cn co (shf qu k0 i) B (nI n) mh fl) → va_S A s.heap H locs →
    ∀ (ls : Array Slot), lv_has ls 4 [(3, .int (nI i)), (2, .ref (a 3 (qu k0))), (0, .ref (a 0 0)), (1, .int x)] →
    W p l e ({ frames := 14, cells := 0, slots := 0, locals := 420 } : Room) s m args below meth c H locs 0 0 (MQ below (va_Qi (post) (gB D vwCl (gT K) A) A) args s 0 0 A) (F0 m 29 ls []) := by
  have I0 := I
  obtain ⟨hx, hb, hr, hml, hown, hts, hlocks, hnm, hA, hK, -, -, -⟩ := I
  have hown : s.vm.findClass RX2 = some m.cls := hown
  have hi_X2 : ∀ w ∈ u_ws RX2 TX2 8, w ∈ wsX2_leave := by decide +kernel
  intro k
  induction k with
  | zero =>
    intro i H locs hi hk0 hP hD hS ls hl
    refine lv_iload_n hx hb dX2_leave_29 rfl (lv_at hl 0 rfl) ?_
    refine lv_aload_n hx hb dX2_leave_30 rfl (lv_at hl 2 rfl) ?_
    refine va_get (C := RX2) (T := TX2) (N := 8) (ci := 2) hx hb hts hi_X2 hown hK hP (0) (rfl) rfl 5 (by decide) (hts (.fieldLink RX2 77 "GroupSeats" "waiters" "I") (by decide +kernel)) (fun _ h9 => h9) rfl dX2_leave_31 ?_
    refine lv_icmp_ge (tgt := 57) hx hb dX2_leave_34 (by decide) (fun c34 => ?_) (fun c34 => ?_)
    · have hin : i = n := by omega
      subst hin
      exact hE _ _ hP hD hS ls hl
    · exact absurd (nI_le (by omega) (by omega)) c34
  | succ k ih =>
    intro i H locs hi hk0 hP hD hS ls hl
    refine lv_iload_n hx hb dX2_leave_29 rfl (lv_at hl 0 rfl) ?_
    refine lv_aload_n hx hb dX2_leave_30 rfl (lv_at hl 2 rfl) ?_
    refine va_get (C := RX2) (T := TX2) (N := 8) (ci := 2) hx hb hts hi_X2 hown hK hP (0) (rfl) rfl 5 (by decide) (hts (.fieldLink RX2 77 "GroupSeats" "waiters" "I") (by decide +kernel)) (fun _ h9 => h9) rfl dX2_leave_31 ?_
    refine lv_icmp_ge (tgt := 57) hx hb dX2_leave_34 (by decide) (fun c34 => ?_) (fun c34 => ?_)
    · exact absurd c34 (nI_ge (by omega) (by omega))
    · refine lv_aload_n hx hb dX2_leave_37 rfl (lv_at hl 2 rfl) ?_
      refine va_get (C := RX2) (T := TX2) (N := 8) (ci := 2) hx hb hts hi_X2 hown hK hP (0) (rfl) rfl 2 (by decide) (hts (.fieldLink RX2 21 "GroupSeats" "queue" "[LGroupSeats$Party;") (by decide +kernel)) (fun _ h9 => h9) rfl dX2_leave_38 ?_
      refine lv_iload_n hx hb dX2_leave_41 rfl (lv_at hl 0 rfl) ?_
      refine lv_aload_n hx hb dX2_leave_42 rfl (lv_at hl 2 rfl) ?_
      refine va_get (C := RX2) (T := TX2) (N := 8) (ci := 2) hx hb hts hi_X2 hown hK hP (0) (rfl) rfl 2 (by decide) (hts (.fieldLink RX2 21 "GroupSeats" "queue" "[LGroupSeats$Party;") (by decide +kernel)) (fun _ h9 => h9) rfl dX2_leave_43 ?_
      refine lv_iload_n hx hb dX2_leave_46 rfl (lv_at hl 0 rfl) ?_
      refine lv_iconst (v := 1) hx hb dX2_leave_47 (by decide) ?_
      refine lv_iadd hx hb dX2_leave_48 ?_
      rw [nI_1]
      refine g_aldq hx hb hK hP (3) 3 (rfl) rfl (vp_in_nI (show i + 1 < 8 by omega) (by decide)) (gRf_at (show i + 1 < 8 by omega) (by decide)) dX2_leave_49 ?_
      rw [shf_next]
      refine va_astq hx hb hK hP hD hS 3 3 (2 * (qu (i + 1)) + 20 + 4) 0 rfl rfl (hW_par (hM.1 _ (by omega))) rfl (vp_in_nI (show i < 8 by omega) (by decide)) dX2_leave_50 (fun H locs hP hD hS => ?_)
      have hP : va_P D vwCl ((hW K a z sd ho bk ow pl pn pm nm cn co (shf qu k0 i) B (nI n) mh fl).set (3) (a 0 3, gRef K.2.2.2 8 (va_up (gRf 8 (fun t => a 3 (shf qu k0 i t))) (nI i).toNatClampNeg (some (a 3 (qu (i + 1))))))) H := hP
      have hD : va_D A ((hW K a z sd ho bk ow pl pn pm nm cn co (shf qu k0 i) B (nI n) mh fl).set (3) (a 0 3, gRef K.2.2.2 8 (va_up (gRf 8 (fun t => a 3 (shf qu k0 i t))) (nI i).toNatClampNeg (some (a 3 (qu (i + 1))))))) := hD
      rw [hW_setQu (show i < 8 by omega), shf_up (by omega)] at hP hD
      refine lv_iinc (lv' := [(3, .int _), (2, .ref _), (0, .ref _), (1, .int _)]) hx hb dX2_leave_51 hl (k := 0) rfl rfl (by decide) rfl (fun ls hl => ?_)
      refine lv_goto (tgt := 29) hx hb dX2_leave_54 (by decide) ?_
      rw [g_inc] at hl
      exact ih (i + 1) H locs (by omega) (by omega) hP hD hS ls (lv_sub hl [0, 1, 2, 3] rfl)
set_option maxHeartbeats 4000000 in
set_option maxRecDepth 100000 in
/-- leave -/
theorem h_leave (l : Launch) (D : va_G) (K : gCl) (a : Nat → Nat → Nat) (z : Nat → Nat) (sd ho bk : Nat → Int32) (ow : Nat → Nat → Int32) (pl pn pm : Nat → Int32) (nm : Nat → Nat → Int32) (cn : Nat → Int32) (co : Nat) (qu : Nat → Nat) (B mh : Nat) (fl : Int32) (q : List Pty) (li : List Nat) (x : Int32) (sz : Nat) (hz : ∀ i, i < 10 → z i ≤ 20) (hB40 : B ≤ 40) (hq8 : q.length ≤ 8) (hmh6 : mh ≤ 6) (hM : PM qu co) (hPs : PQ pl pn pm nm qu 0 q) (hlc : pl co = nI li.length) (hLc : isL (nm co) li) : gMi l yX2_leave wsX2_leave ({ frames := 14, cells := 0, slots := 0, locals := 420 } : Room) D vwCl (gT K) [.ref (a 0 0), .int x] (hW K a z sd ho bk ow pl pn pm nm cn co qu (nI B) (nI q.length) (nI mh) fl) sz (RP K (a 0 0) (opLeave z sd ow cn B q li mh fl x)) 0 0 := by
  refine g_of (cc := cX2_leave) (maxL := 4) (ret := (some .int)) (Qc := fun A => va_Qi (RP K (a 0 0) (opLeave z sd ow cn B q li mh fl x)) (gB D vwCl (gT K) A) A) (by decide) rfl (Nat.le_of_ble_eq_true rfl) ?_
  intro p e s m below meth c A ls I hl
  have I0 := I
  obtain ⟨hx, hb, hr, hml, hown, hts, hlocks, hnm, hA, hK, hP, hD, hS⟩ := I
  have hown : s.vm.findClass RX2 = some m.cls := hown
  have hl : lv_has ls 4 [(0, .ref (a 0 0)), (1, .int x)] := hl
  have hi_X2 : ∀ w ∈ u_ws RX2 TX2 8, w ∈ wsX2_leave := by decide +kernel
  have hi_X0 : ∀ w ∈ u_ws RX0 TX0 4, w ∈ wsX2_leave := by decide +kernel
  refine lv_aload_n hx hb dX2_leave_0 rfl (lv_at hl 0 rfl) ?_
  refine lv_iload_n hx hb dX2_leave_1 rfl (lv_at hl 1 rfl) ?_
  refine g_calli (va_runV (As := [.int _]) (rest := []) ⟨hx, hb, hml, hown, hts⟩ (c_isWaiting l D K _ (a 0 0) (a 0 1) (a 0 2) (a 0 3) (a 3 co) (nI B) (nI q.length) (nI mh) fl _ _ rfl) (cwV 1 hts gX2_leave_X2_isWaiting rfl rfl rfl (by decide +kernel) ⟨(Nat.le_of_ble_eq_true rfl), (Nat.le_of_ble_eq_true rfl)⟩) (g_preV hK hP hD (ci := 2) (q0 := 0) rfl (rfl)) rfl rfl hl.1 rfl (lv_room (Nat.le_of_ble_eq_true rfl)) dX2_leave_2 ⟨Nat.zero_le _, Nat.zero_le _⟩) hD hS hA (fun r2 wv H locs hw hP hD hS => ?_)
  obtain ⟨ew, e2⟩ := hw
  rw [ew] at hP hD
  refine lv_if_ne (tgt := 10) hx hb dX2_leave_5 (by decide) (fun c5 => ?_) (fun c5 => ?_)
  · simp only [e2, Classical.not_not] at c5
    obtain ⟨k0, hk0, rfl⟩ := g_ixn (n := q.length) (by omega) c5
    have hR := hPs k0 q[k0] (List.getElem?_eq_getElem hk0)
    rw [Nat.zero_add] at hR
    have hxk : ixN (nI k0) = k0 := ixN_nI (by omega)
    have hgd : q.getD k0 (0, []) = q[k0] := by simp [List.getD_eq_getElem?_getD, hk0]
    refine lv_aload_n hx hb dX2_leave_10 rfl (lv_at hl 0 rfl) ?_
    refine va_get (C := RX2) (T := TX2) (N := 8) (ci := 2) hx hb hts hi_X2 hown hK hP (0) (rfl) rfl 2 (by decide) (hts (.fieldLink RX2 21 "GroupSeats" "queue" "[LGroupSeats$Party;") (by decide +kernel)) (fun _ h9 => h9) rfl dX2_leave_11 ?_
    refine lv_iload_n hx hb dX2_leave_14 rfl (lv_at hl 1 rfl) ?_
    refine g_aldq hx hb hK hP (3) 3 (rfl) rfl (vp_in_nI (show k0 < 8 by omega) (by decide)) (gRf_at (show k0 < 8 by omega) (by decide)) dX2_leave_15 ?_
    refine lv_astore_n (lv' := [(2, .ref _), (0, .ref _), (1, .int _)]) hx hb dX2_leave_16 rfl hl (by decide) rfl (fun ls hl => ?_)
    refine lv_aload_n hx hb dX2_leave_17 rfl (lv_at hl 1 rfl) ?_
    refine lv_dup hx hb dX2_leave_18 rfl ?_
    refine va_get (C := RX2) (T := TX2) (N := 8) (ci := 2) hx hb hts hi_X2 hown hK hP (0) (rfl) rfl 5 (by decide) (hts (.fieldLink RX2 77 "GroupSeats" "waiters" "I") (by decide +kernel)) (fun _ h9 => h9) rfl dX2_leave_19 ?_
    refine lv_iconst (v := 1) hx hb dX2_leave_22 (by decide) ?_
    refine lv_isub hx hb dX2_leave_23 ?_
    refine va_put (C := RX2) (T := TX2) (N := 8) (ci := 2) (ty := .int) hx hb hts hi_X2 tyX2 tyX2_ok nmX2 hown hK hP hD hS (0) (rfl) rfl 5 (by decide) (hts (.fieldLink RX2 77 "GroupSeats" "waiters" "I") (by decide +kernel)) (fun _ h9 => h9) rfl (by decide +kernel) rfl rfl (Nat.le_of_ble_eq_true rfl) dX2_leave_24 (fun H locs hP hD hS => ?_)
    have hP : va_P D vwCl (hW K a z sd ho bk ow pl pn pm nm cn co qu (nI B) (nI q.length - 1) (nI mh) fl) H := hP
    have hD : va_D A (hW K a z sd ho bk ow pl pn pm nm cn co qu (nI B) (nI q.length - 1) (nI mh) fl) := hD
    rw [show nI q.length - 1 = nI (q.length - 1) from by have := nI_pred (q.length - 1); rw [show q.length - 1 + 1 = q.length by omega] at this; exact this] at hP hD
    refine lv_iload_n hx hb dX2_leave_27 rfl (lv_at hl 2 rfl) ?_
    refine lv_istore_n (lv' := [(3, .int _), (2, .ref _), (0, .ref _), (1, .int _)]) hx hb dX2_leave_28 rfl hl (by decide) rfl (fun ls hl => ?_)
    refine lp_leave (x := nI k0) (k0 := k0) (n := q.length - 1) hM (by omega) I0 ?_ (q.length - 1 - k0) k0 _ _ (by omega) (by omega) (by rw [shf_k]; exact hP) (by rw [shf_k]; exact hD) hS ls (lv_sub hl [0, 1, 2, 3] rfl)
    intro H locs hP hD hS ls hl
    refine lv_aload_n hx hb dX2_leave_57 rfl (lv_at hl 2 rfl) ?_
    refine va_get (C := RX2) (T := TX2) (N := 8) (ci := 2) hx hb hts hi_X2 hown hK hP (0) (rfl) rfl 2 (by decide) (hts (.fieldLink RX2 21 "GroupSeats" "queue" "[LGroupSeats$Party;") (by decide +kernel)) (fun _ h9 => h9) rfl dX2_leave_58 ?_
    refine lv_aload_n hx hb dX2_leave_61 rfl (lv_at hl 2 rfl) ?_
    refine va_get (C := RX2) (T := TX2) (N := 8) (ci := 2) hx hb hts hi_X2 hown hK hP (0) (rfl) rfl 5 (by decide) (hts (.fieldLink RX2 77 "GroupSeats" "waiters" "I") (by decide +kernel)) (fun _ h9 => h9) rfl dX2_leave_62 ?_
    refine lv_aload_n hx hb dX2_leave_65 rfl (lv_at hl 1 rfl) ?_
    refine va_astq hx hb hK hP hD hS 3 3 (2 * (qu k0) + 20 + 4) 0 rfl rfl (hW_par (hM.1 _ (by omega))) rfl (vp_in_nI (show q.length - 1 < 8 by omega) (by decide)) dX2_leave_66 (fun H locs hP hD hS => ?_)
    have hP : va_P D vwCl ((hW K a z sd ho bk ow pl pn pm nm cn co (shf qu k0 (q.length - 1)) (nI B) (nI (q.length - 1)) (nI mh) fl).set (3) (a 0 3, gRef K.2.2.2 8 (va_up (gRf 8 (fun t => a 3 (shf qu k0 (q.length - 1) t))) (nI (q.length - 1)).toNatClampNeg (some (a 3 (qu k0)))))) H := hP
    have hD : va_D A ((hW K a z sd ho bk ow pl pn pm nm cn co (shf qu k0 (q.length - 1)) (nI B) (nI (q.length - 1)) (nI mh) fl).set (3) (a 0 3, gRef K.2.2.2 8 (va_up (gRf 8 (fun t => a 3 (shf qu k0 (q.length - 1) t))) (nI (q.length - 1)).toNatClampNeg (some (a 3 (qu k0)))))) := hD
    rw [hW_setQu (show q.length - 1 < 8 by omega)] at hP hD
    refine lv_aload_n hx hb dX2_leave_67 rfl (lv_at hl 1 rfl) ?_
    refine va_get (C := RX0) (T := TX0) (N := 4) (ci := 0) hx hb hts hi_X0 hown hK hP (2 * (qu k0) + 20 + 4) (hW_par (hM.1 _ (by omega))) rfl 2 (by decide) (hts (.fieldLink RX2 69 "GroupSeats$Party" "size" "I") (by decide +kernel)) (fun _ h9 => h9) rfl dX2_leave_68 ?_
    exact g_iret hx hb hr hlocks (Nat.le_of_ble_eq_true rfl) (Nat.le_of_ble_eq_true rfl) hK hP hD hS dX2_leave_71 (by unfold opLeave; rw [if_pos c5, hxk, hgd]; exact ⟨hR.2.1, a, ho, bk, pl, pn, pm, nm, co, rot qu k0 (q.length - 1), rfl, by rw [List.length_eraseIdx_of_lt hk0]; rfl, PM_rot hM (by omega) (by omega), PQ_rot hk0 hPs, hlc, hLc⟩)
  · simp only [e2, Classical.not_not] at c5
    refine lv_iconst (v := -1) hx hb dX2_leave_8 (by decide) ?_
    exact g_iret hx hb hr hlocks (Nat.le_of_ble_eq_true rfl) (Nat.le_of_ble_eq_true rfl) hK hP hD hS dX2_leave_9 (by unfold opLeave; rw [if_neg c5]; exact ⟨rfl, ⟨a, ho, bk, pl, pn, pm, nm, co, qu, rfl, rfl, hM, hPs, hlc, hLc⟩⟩)
end
section
/-! THE MODEL'S SEATS -/
def rowOf (g : Nat → Int32) (r : Nat) : Nat → Int32 := fun j => if j < 20 then g (20 * r + j) else 0
theorem rowOf_in {g : Nat → Int32} {r j : Nat} (h : j < 20) : rowOf g r j = g (20 * r + j) := by simp [rowOf, h]
theorem rowOf_upd {g : Nat → Int32} {r i : Nat} {v : Int32} (hi : i < 20) : rowOf (upd g (20 * r + i) v) r = upd (rowOf g r) i v := by
  funext j
  by_cases h : j < 20
  · by_cases e : j = i
    · subst e; simp [rowOf, upd, h]
    · simp [rowOf, upd, h, e]
  · simp [rowOf, upd, h, show j ≠ i by omega]
theorem rowOf_ne {g : Nat → Int32} {r r' i : Nat} {v : Int32} (hi : i < 20) (hr : r' ≠ r) : rowOf (upd g (20 * r + i) v) r' = rowOf g r' := by
  funext j
  by_cases h : j < 20
  · simp [rowOf, upd, h, show 20 * r' + j ≠ 20 * r + i by omega]
  · simp [rowOf, h]
theorem ix_20 {r i : Nat} (hr : r < 10) (hi : i < 20) : (20 * nI r + nI i).toNatClampNeg = 20 * r + i := by
  rw [show (20 : Int32) = nI 20 from rfl, pk_mul, nI_add]
  exact nI_clamp (by omega)
theorem in_20 {r i : Nat} (hr : r < 10) (hi : i < 20) : vp_in (20 * nI r + nI i) 200 := by
  rw [show (20 : Int32) = nI 20 from rfl, pk_mul, nI_add]
  exact vp_in_nI (by omega) (by decide)
theorem mkF_yes {b : Int32} {k i c : Nat} {f : Nat → Int32} (hf : f i = -8) : mkF b (k + 1) i (c + 1) f = mkF b k (i + 1) c (upd f i b) := by
  rw [mkF, if_neg (by omega), if_pos hf, Nat.add_sub_cancel]
theorem mkF_no {b : Int32} {k i c : Nat} {f : Nat → Int32} (hf : f i ≠ -8) : mkF b (k + 1) i (c + 1) f = mkF b k (i + 1) (c + 1) f := by
  rw [mkF, if_neg (by omega), if_neg hf]
theorem mkC_yes {b : Int32} {k i c : Nat} {f : Nat → Int32} (hf : f i = -8) : mkC f (k + 1) i (c + 1) = mkC (upd f i b) k (i + 1) c + 1 := by
  rw [mkC, if_neg (by omega), if_pos hf, Nat.add_sub_cancel, mkC_congr (f := f) (g := upd f i b) k (i + 1) c (fun j hj => (upd_after j hj).symm)]
theorem mkC_no {k i c : Nat} {f : Nat → Int32} (hf : f i ≠ -8) : mkC f (k + 1) i (c + 1) = mkC f k (i + 1) (c + 1) := by
  rw [mkC, if_neg (by omega), if_neg hf]
/-! the model's way to the best stretch -/
def rn (f : Nat → Int32) (z k : Nat) : Nat := runL f (z - k) k
def JM (f : Nat → Int32) (z w i s fo : Nat) : Prop := s ≤ i ∧ (∀ k, k < i → k < z → min (rn f z k) w ≤ min fo w) ∧ (∀ k, k < s → min (rn f z k) w < min fo w) ∧ (fo = rn f z s ∨ (fo = 0 ∧ s = 0 ∧ i = 0)) ∧ s ≤ z
theorem JM_0 {f : Nat → Int32} {z w : Nat} : JM f z w 0 0 0 := ⟨by omega, fun k h => by omega, fun k h => by omega, Or.inr ⟨rfl, rfl, rfl⟩, by omega⟩
theorem rn_mono {f : Nat → Int32} {z i k j : Nat} (hj : j = i + rn f z i) (hjz : j ≤ z) (hs : j < z → f j ≠ -8) (h1 : i ≤ k) (h2 : k ≤ j) : rn f z k ≤ rn f z i := by
  rcases Nat.lt_or_ge j z with q | q
  · have := runL_lt (n := z - k) h2 (hs q)
    unfold rn at hj ⊢
    omega
  · have := runL_le f (z - k) k
    unfold rn at hj ⊢
    omega
theorem JM_up {f : Nat → Int32} {z w i s fo j : Nat} (h : JM f z w i s fo) (hi : i < z) (hw : fo < w) (hj : j = i + rn f z i) (hjz : j ≤ z) (hs : j < z → f j ≠ -8) (hu : fo < rn f z i) : JM f z w (j + 1) i (rn f z i) := by
  obtain ⟨h1, h2, h3, h4, h5⟩ := h
  refine ⟨by omega, fun k hk hkz => ?_, fun k hk => ?_, Or.inl rfl, by omega⟩
  · rcases Nat.lt_or_ge k i with q | q
    · have := h2 k q hkz; omega
    · have := rn_mono hj hjz hs q (by omega); omega
  · have := h2 k hk (by omega); omega
theorem JM_no {f : Nat → Int32} {z w i s fo j : Nat} (h : JM f z w i s fo) (hi : i < z) (hj : j = i + rn f z i) (hjz : j ≤ z) (hs : j < z → f j ≠ -8) (hu : rn f z i ≤ fo) : JM f z w (j + 1) s fo := by
  obtain ⟨h1, h2, h3, h4, h5⟩ := h
  refine ⟨by omega, fun k hk hkz => ?_, h3, ?_, h5⟩
  · rcases Nat.lt_or_ge k i with q | q
    · exact h2 k q hkz
    · have := rn_mono hj hjz hs q (by omega); omega
  · rcases h4 with q | ⟨q1, q2, q3⟩
    · exact Or.inl q
    · left
      rw [q2]
      rw [q3] at hu
      omega
theorem JM_end {f : Nat → Int32} {z w i s fo : Nat} (h : JM f z w i s fo) (hz : 0 < z) (hw : 0 < w) (he : z ≤ i ∨ w ≤ fo) : isBs f z w s ∧ min fo w = valS f z w s := by
  obtain ⟨h1, h2, h3, h4, h5⟩ := h
  have e : fo = rn f z s := by
    rcases h4 with q | ⟨q1, q2, q3⟩
    · exact q
    · omega
  have ev : ∀ k, valS f z w k = min (rn f z k) w := fun k => rfl
  refine ⟨⟨h5, fun k hk => ?_, fun k hk => ?_⟩, by rw [ev, ← e]⟩
  · rw [ev, ev, ← e]
    rcases Nat.lt_or_ge k i with q | q
    · exact h2 k q hk
    · omega
  · rw [ev, ev, ← e]
    exact h3 k hk
theorem rn_full {f : Nat → Int32} {z i j : Nat} (hij : i ≤ j) (hjz : j ≤ z) (hfr : ∀ k, i ≤ k → k < j → f k = -8) (hs : j < z → f j ≠ -8) : j = i + rn f z i := by
  have h1 : j - i ≤ rn f z i := runL_ge f (z - i) i (j - i) (by omega) (fun k a b => hfr k a (by omega))
  have h2 : rn f z i ≤ j - i := by
    rcases Nat.lt_or_ge j z with q | q
    · exact runL_lt hij (hs q)
    · have := runL_le f (z - i) i
      unfold rn; omega
  omega
set_option maxHeartbeats 4000000 in
set_option maxRecDepth 100000 in
theorem lp_mark {p : Program} {l : Launch} {e : Env} {s : State} {m : MethodId} {args : Array Value} {below : List Frame} {meth : Method} {c : Code} {A : Nat → Prop} {D : va_G} {K : gCl} {ws0 : va_W} {rm : Room} {ma : Nat → Nat} {op st zs ho ba se lx cn pe lt le wa ta : Nat → Int32} {th ll wt mh fl wl fd : Int32} {B r z c0 s0 CF : Nat} {FF : Nat → Int32} (hr10 : r < 10) (hz : z ≤ 20) (hsz : zs r = nI z) (hc0 : c0 < 2 ^ 20)
    (I : gIn p s m meth c A yX3_mark wsX3_mark cX3_mark 6 (some .int) args D vwCl (gT K) ws0)  :
    ∀ (k : Nat) (i n : Nat) (g : Nat → Int32) (H : Heap) (locs : List Loc), i + k = z → n ≤ c0 → n + mkC (rowOf g r) k i (c0 - n) = CF → mkF (nI B) k i (c0 - n) (rowOf g r) = FF → (∀ r2, r2 < 10 → r2 ≠ r → rowOf g r2 = rowOf se r2) → va_P D vwCl (mW K ma th ll (nI B) wt mh fl wl fd op st zs ho ba g lx cn pe lt le wa ta) H → va_D A (mW K ma th ll (nI B) wt mh fl wl fd op st zs ho ba g lx cn pe lt le wa ta) → va_S A s.heap H locs →
    ∀ (ls : Array Slot), lv_has ls 6 [(5, .int (nI i)), (4, .int (nI n)), (0, .ref (ma 0)), (1, .int (nI r)), (2, .int (nI s0)), (3, .int (nI c0))] →
    W p l e rm s m args below meth c H locs 0 0 (MQ below (va_Qi (fun r1 w1 => ∃ se1 : Nat → Int32, w1 = mW K ma th ll (nI B) wt mh fl wl fd op st zs ho ba se1 lx cn pe lt le wa ta ∧ r1 = nI CF ∧ rowOf se1 r = FF ∧ ∀ r2, r2 < 10 → r2 ≠ r → rowOf se1 r2 = rowOf se r2) (gB D vwCl (gT K) A) A) args s 0 0 A) (F0 m 6 ls []) := by
  have I0 := I
  obtain ⟨hx, hb, hr, hml, hown, hts, hlocks, hnm, hA, hK, -, -, -⟩ := I
  have hown : s.vm.findClass RX3 = some m.cls := hown
  have hi_X3 : ∀ w ∈ u_ws RX3 TX3 21, w ∈ wsX3_mark := by decide +kernel
  intro k
  induction k with
  | zero =>
    intro i n g H locs hi hn hC hF hO hP hD hS ls hl
    refine lv_iload hx hb dX3_mark_6 (lv_at hl 0 rfl) ?_
    refine lv_aload_n hx hb dX3_mark_8 rfl (lv_at hl 2 rfl) ?_
    refine va_get (C := RX3) (T := TX3) (N := 21) (ci := 3) hx hb hts hi_X3 hown hK hP (0) (rfl) rfl 3 (by decide) (hts (.fieldLink RX3 16 "GroupSeatsModel" "size" "[I") (by decide +kernel)) (fun _ h9 => h9) rfl dX3_mark_9 ?_
    refine lv_iload_n hx hb dX3_mark_12 rfl (lv_at hl 3 rfl) ?_
    refine va_iald hx hb hK hP (3) 0 (rfl) rfl (vp_in_nI (show r < 10 by omega) (by decide)) dX3_mark_13 ?_
    rw [nI_clamp (n := r) (by omega), hsz]
    refine lv_icmp_ge (tgt := 65) hx hb dX3_mark_14 (by decide) (fun c14 => ?_) (fun c14 => ?_)
    · refine lv_iload hx hb dX3_mark_65 (lv_at hl 1 rfl) ?_
      exact g_iret hx hb hr hlocks (Nat.le_of_ble_eq_true rfl) (Nat.le_of_ble_eq_true rfl) hK hP hD hS dX3_mark_67 (⟨g, rfl, by rw [← hC]; rfl, hF, hO⟩)
    · exact absurd (nI_le (by omega) (by omega)) c14
  | succ k ih =>
    intro i n g H locs hi hn hC hF hO hP hD hS ls hl
    refine lv_iload hx hb dX3_mark_6 (lv_at hl 0 rfl) ?_
    refine lv_aload_n hx hb dX3_mark_8 rfl (lv_at hl 2 rfl) ?_
    refine va_get (C := RX3) (T := TX3) (N := 21) (ci := 3) hx hb hts hi_X3 hown hK hP (0) (rfl) rfl 3 (by decide) (hts (.fieldLink RX3 16 "GroupSeatsModel" "size" "[I") (by decide +kernel)) (fun _ h9 => h9) rfl dX3_mark_9 ?_
    refine lv_iload_n hx hb dX3_mark_12 rfl (lv_at hl 3 rfl) ?_
    refine va_iald hx hb hK hP (3) 0 (rfl) rfl (vp_in_nI (show r < 10 by omega) (by decide)) dX3_mark_13 ?_
    rw [nI_clamp (n := r) (by omega), hsz]
    refine lv_icmp_ge (tgt := 65) hx hb dX3_mark_14 (by decide) (fun c14 => ?_) (fun c14 => ?_)
    · exact absurd c14 (nI_ge (by omega) (by omega))
    · refine lv_iload hx hb dX3_mark_17 (lv_at hl 1 rfl) ?_
      refine lv_iload_n hx hb dX3_mark_19 rfl (lv_at hl 5 rfl) ?_
      refine lv_icmp_ge (tgt := 65) hx hb dX3_mark_20 (by decide) (fun c20 => ?_) (fun c20 => ?_)
      · refine lv_iload hx hb dX3_mark_65 (lv_at hl 1 rfl) ?_
        exact g_iret hx hb hr hlocks (Nat.le_of_ble_eq_true rfl) (Nat.le_of_ble_eq_true rfl) hK hP hD hS dX3_mark_67 (by have e0 : c0 - n = 0 := (by have := (nI_leI (by omega) (by omega)).mp c20; omega); rw [e0, mkC_0] at hC; rw [e0, mkF_0] at hF; exact ⟨g, rfl, by rw [← hC]; rfl, hF, hO⟩)
      · have hnc : n < c0 := Nat.lt_of_not_le (fun q => c20 (nI_le q (by omega)))
        refine lv_aload_n hx hb dX3_mark_23 rfl (lv_at hl 2 rfl) ?_
        refine va_get (C := RX3) (T := TX3) (N := 21) (ci := 3) hx hb hts hi_X3 hown hK hP (0) (rfl) rfl 6 (by decide) (hts (.fieldLink RX3 26 "GroupSeatsModel" "seats" "[I") (by decide +kernel)) (fun _ h9 => h9) rfl dX3_mark_24 ?_
        refine lv_bipush (v := 20) hx hb dX3_mark_27 (by decide) ?_
        refine lv_iload_n hx hb dX3_mark_29 rfl (lv_at hl 3 rfl) ?_
        refine lv_imul hx hb dX3_mark_30 ?_
        refine lv_iload hx hb dX3_mark_31 (lv_at hl 0 rfl) ?_
        refine lv_iadd hx hb dX3_mark_33 ?_
        refine va_iald hx hb hK hP (6) 0 (rfl) rfl (in_20 hr10 (show i < 20 by omega)) dX3_mark_34 ?_
        refine lv_bipush (v := -8) hx hb dX3_mark_35 (by decide) ?_
        refine lv_icmp_ne (tgt := 59) hx hb dX3_mark_37 (by decide) (fun c37 => ?_) (fun c37 => ?_)
        · refine lv_iinc (lv' := [(5, .int _), (4, .int _), (0, .ref _), (1, .int _), (2, .int _), (3, .int _)]) hx hb dX3_mark_59 hl (k := 0) rfl rfl (by decide) rfl (fun ls hl => ?_)
          refine lv_goto (tgt := 6) hx hb dX3_mark_62 (by decide) ?_
          rw [ix_20 hr10 (by omega), ← rowOf_in (g := g) (r := r) (show i < 20 by omega)] at c37
          have hc1 : c0 - n = (c0 - (n + 1)) + 1 := by omega
          rw [hc1] at hC hF
          rw [mkC_no c37] at hC
          rw [mkF_no c37] at hF
          rw [← hc1] at hC hF
          rw [g_inc] at hl
          exact ih (i + 1) n g H locs (by omega) hn hC hF hO hP hD hS ls (lv_sub hl [0, 1, 2, 3, 4, 5] rfl)
        · refine lv_aload_n hx hb dX3_mark_40 rfl (lv_at hl 2 rfl) ?_
          refine va_get (C := RX3) (T := TX3) (N := 21) (ci := 3) hx hb hts hi_X3 hown hK hP (0) (rfl) rfl 6 (by decide) (hts (.fieldLink RX3 26 "GroupSeatsModel" "seats" "[I") (by decide +kernel)) (fun _ h9 => h9) rfl dX3_mark_41 ?_
          refine lv_bipush (v := 20) hx hb dX3_mark_44 (by decide) ?_
          refine lv_iload_n hx hb dX3_mark_46 rfl (lv_at hl 3 rfl) ?_
          refine lv_imul hx hb dX3_mark_47 ?_
          refine lv_iload hx hb dX3_mark_48 (lv_at hl 0 rfl) ?_
          refine lv_iadd hx hb dX3_mark_50 ?_
          refine lv_aload_n hx hb dX3_mark_51 rfl (lv_at hl 2 rfl) ?_
          refine va_get (C := RX3) (T := TX3) (N := 21) (ci := 3) hx hb hts hi_X3 hown hK hP (0) (rfl) rfl 9 (by decide) (hts (.fieldLink RX3 54 "GroupSeatsModel" "bookings" "I") (by decide +kernel)) (fun _ h9 => h9) rfl dX3_mark_52 ?_
          refine va_iast hx hb hK hP hD hS (6) 0 (rfl) rfl (in_20 hr10 (show i < 20 by omega)) dX3_mark_55 (fun H locs hP hD hS => ?_)
          have hP : va_P D vwCl (mW K ma th ll (nI B) wt mh fl wl fd op st zs ho ba (upd g (20 * nI r + nI i).toNatClampNeg (nI B)) lx cn pe lt le wa ta) H := hP
          have hD : va_D A (mW K ma th ll (nI B) wt mh fl wl fd op st zs ho ba (upd g (20 * nI r + nI i).toNatClampNeg (nI B)) lx cn pe lt le wa ta) := hD
          refine lv_iinc (lv' := [(4, .int _), (5, .int _), (0, .ref _), (1, .int _), (2, .int _), (3, .int _)]) hx hb dX3_mark_56 hl (k := 1) rfl rfl (by decide) rfl (fun ls hl => ?_)
          refine lv_iinc (lv' := [(5, .int _), (4, .int _), (0, .ref _), (1, .int _), (2, .int _), (3, .int _)]) hx hb dX3_mark_59 hl (k := 1) rfl rfl (by decide) rfl (fun ls hl => ?_)
          refine lv_goto (tgt := 6) hx hb dX3_mark_62 (by decide) ?_
          rw [ix_20 hr10 (by omega), ← rowOf_in (g := g) (r := r) (show i < 20 by omega)] at c37
          have hc1 : c0 - n = (c0 - (n + 1)) + 1 := by omega
          rw [hc1] at hC hF
          rw [ix_20 hr10 (by omega)] at hP hD
          rw [mkC_yes (b := nI B) c37] at hC
          rw [mkF_yes c37] at hF
          rw [g_inc, g_inc] at hl
          exact ih (i + 1) (n + 1) (upd g (20 * r + i) (nI B)) H locs (by omega) (by omega) (by rw [rowOf_upd (by omega)]; omega) (by rw [rowOf_upd (by omega)]; exact hF) (fun r2 h2 h3 => by rw [rowOf_ne (by omega) h3]; exact hO r2 h2 h3) hP hD hS ls (lv_sub hl [0, 1, 2, 3, 4, 5] rfl)
set_option maxHeartbeats 4000000 in
set_option maxRecDepth 100000 in
/-- the model: mark -/
theorem m_mark (l : Launch) (D : va_G) (K : gCl) (ma : Nat → Nat) (op st zs ho ba se lx cn pe lt le wa ta : Nat → Int32) (th ll wt mh fl wl fd : Int32) (B r z s0 c0 : Nat) (sz : Nat) (hr10 : r < 10) (hz : z ≤ 20) (hsz : zs r = nI z) (hc0 : c0 < 2 ^ 20) (hs0 : s0 ≤ z) : gMi l yX3_mark wsX3_mark ({ frames := 0, cells := 0, slots := 0, locals := 0 } : Room) D vwCl (gT K) [.ref (ma 0), .int (nI r), .int (nI s0), .int (nI c0)] (mW K ma th ll (nI B) wt mh fl wl fd op st zs ho ba se lx cn pe lt le wa ta) sz (fun r1 w1 => ∃ se1 : Nat → Int32, w1 = mW K ma th ll (nI B) wt mh fl wl fd op st zs ho ba se1 lx cn pe lt le wa ta ∧ r1 = nI (mkC (rowOf se r) (z - s0) s0 c0) ∧ rowOf se1 r = mkF (nI B) (z - s0) s0 c0 (rowOf se r) ∧ ∀ r2, r2 < 10 → r2 ≠ r → rowOf se1 r2 = rowOf se r2) 0 0 := by
  refine g_of (cc := cX3_mark) (maxL := 6) (ret := (some .int)) (Qc := fun A => va_Qi (fun r1 w1 => ∃ se1 : Nat → Int32, w1 = mW K ma th ll (nI B) wt mh fl wl fd op st zs ho ba se1 lx cn pe lt le wa ta ∧ r1 = nI (mkC (rowOf se r) (z - s0) s0 c0) ∧ rowOf se1 r = mkF (nI B) (z - s0) s0 c0 (rowOf se r) ∧ ∀ r2, r2 < 10 → r2 ≠ r → rowOf se1 r2 = rowOf se r2) (gB D vwCl (gT K) A) A) (by decide) rfl (Nat.le_of_ble_eq_true rfl) ?_
  intro p e s m below meth c A ls I hl
  have I0 := I
  obtain ⟨hx, hb, hr, hml, hown, hts, hlocks, hnm, hA, hK, hP, hD, hS⟩ := I
  have hown : s.vm.findClass RX3 = some m.cls := hown
  have hl : lv_has ls 6 [(0, .ref (ma 0)), (1, .int (nI r)), (2, .int (nI s0)), (3, .int (nI c0))] := hl
  have hi_X3 : ∀ w ∈ u_ws RX3 TX3 21, w ∈ wsX3_mark := by decide +kernel
  refine lv_iconst (v := 0) hx hb dX3_mark_0 (by decide) ?_
  refine lv_istore (lv' := [(4, .int _), (0, .ref _), (1, .int _), (2, .int _), (3, .int _)]) hx hb dX3_mark_1 hl (by decide) rfl (fun ls hl => ?_)
  refine lv_iload_n hx hb dX3_mark_3 rfl (lv_at hl 3 rfl) ?_
  refine lv_istore (lv' := [(5, .int _), (4, .int _), (0, .ref _), (1, .int _), (2, .int _), (3, .int _)]) hx hb dX3_mark_4 hl (by decide) rfl (fun ls hl => ?_)
  exact lp_mark (CF := mkC (rowOf se r) (z - s0) s0 c0) (FF := mkF (nI B) (z - s0) s0 c0 (rowOf se r)) hr10 hz hsz hc0 I0 (z - s0) s0 0 se _ _ (by omega) (by omega) (by rw [Nat.zero_add]; rfl) rfl (fun _ _ _ => rfl) hP hD hS ls (lv_sub hl [0, 1, 2, 3, 4, 5] rfl)
set_option maxHeartbeats 4000000 in
set_option maxRecDepth 100000 in
theorem lp_str1 {p : Program} {l : Launch} {e : Env} {s : State} {m : MethodId} {args : Array Value} {below : List Frame} {meth : Method} {c : Code} {A : Nat → Prop} {D : va_G} {K : gCl} {ws0 : va_W} {rm : Room} {ma : Nat → Nat} {op st zs ho ba se lx cn pe lt le wa ta : Nat → Int32} {th ll B wt mh fl wl : Int32} {r z w i s0 fo : Nat} {post : Int32 → va_W → Prop} (hr10 : r < 10) (hz : z ≤ 20) (hsz : zs r = nI z)
    (I : gIn p s m meth c A yX3_stretch wsX3_stretch cX3_stretch 6 (some .int) args D vwCl (gT K) ws0) (hE : ∀ (j : Nat) (H : Heap) (locs : List Loc), i ≤ j → j ≤ z → j = i + rn (rowOf se r) z i → (j < z → (rowOf se r) j ≠ -8) → va_P D vwCl (mW K ma th ll B wt mh fl wl (nI fo) op st zs ho ba se lx cn pe lt le wa ta) H → va_D A (mW K ma th ll B wt mh fl wl (nI fo) op st zs ho ba se lx cn pe lt le wa ta) → va_S A s.heap H locs → ∀ (ls : Array Slot), lv_has ls 6 [(5, .int (nI j)), (4, .int (nI i)), (3, .int (nI s0)), (0, .ref (ma 0)), (1, .int (nI r)), (2, .int (nI w))] → W p l e rm s m args below meth c H locs 0 0 (MQ below (va_Qi (post) (gB D vwCl (gT K) A) A) args s 0 0 A) (F0 m 67 ls [])) :
    ∀ (k : Nat) (j : Nat) (H : Heap) (locs : List Loc), j + k = z → i ≤ j → (∀ t, i ≤ t → t < j → (rowOf se r) t = -8) → va_P D vwCl (mW K ma th ll B wt mh fl wl (nI fo) op st zs ho ba se lx cn pe lt le wa ta) H → va_D A (mW K ma th ll B wt mh fl wl (nI fo) op st zs ho ba se lx cn pe lt le wa ta) → va_S A s.heap H locs →
    ∀ (ls : Array Slot), lv_has ls 6 [(5, .int (nI j)), (4, .int (nI i)), (3, .int (nI s0)), (0, .ref (ma 0)), (1, .int (nI r)), (2, .int (nI w))] →
    W p l e rm s m args below meth c H locs 0 0 (MQ below (va_Qi (post) (gB D vwCl (gT K) A) A) args s 0 0 A) (F0 m 33 ls []) := by
  have I0 := I
  obtain ⟨hx, hb, hr, hml, hown, hts, hlocks, hnm, hA, hK, -, -, -⟩ := I
  have hown : s.vm.findClass RX3 = some m.cls := hown
  have hi_X3 : ∀ w ∈ u_ws RX3 TX3 21, w ∈ wsX3_stretch := by decide +kernel
  intro k
  induction k with
  | zero =>
    intro j H locs hi hij hfr hP hD hS ls hl
    refine lv_iload hx hb dX3_stretch_33 (lv_at hl 0 rfl) ?_
    refine lv_aload_n hx hb dX3_stretch_35 rfl (lv_at hl 3 rfl) ?_
    refine va_get (C := RX3) (T := TX3) (N := 21) (ci := 3) hx hb hts hi_X3 hown hK hP (0) (rfl) rfl 3 (by decide) (hts (.fieldLink RX3 16 "GroupSeatsModel" "size" "[I") (by decide +kernel)) (fun _ h9 => h9) rfl dX3_stretch_36 ?_
    refine lv_iload_n hx hb dX3_stretch_39 rfl (lv_at hl 4 rfl) ?_
    refine va_iald hx hb hK hP (3) 0 (rfl) rfl (vp_in_nI (show r < 10 by omega) (by decide)) dX3_stretch_40 ?_
    rw [nI_clamp (n := r) (by omega), hsz]
    refine lv_icmp_ge (tgt := 67) hx hb dX3_stretch_41 (by decide) (fun c41 => ?_) (fun c41 => ?_)
    · exact hE j H locs hij (by omega) (rn_full hij (by omega) hfr (fun q => by omega)) (fun q => by omega) hP hD hS ls (lv_sub hl [0, 1, 2, 3, 4, 5] rfl)
    · exact absurd (nI_le (by omega) (by omega)) c41
  | succ k ih =>
    intro j H locs hi hij hfr hP hD hS ls hl
    refine lv_iload hx hb dX3_stretch_33 (lv_at hl 0 rfl) ?_
    refine lv_aload_n hx hb dX3_stretch_35 rfl (lv_at hl 3 rfl) ?_
    refine va_get (C := RX3) (T := TX3) (N := 21) (ci := 3) hx hb hts hi_X3 hown hK hP (0) (rfl) rfl 3 (by decide) (hts (.fieldLink RX3 16 "GroupSeatsModel" "size" "[I") (by decide +kernel)) (fun _ h9 => h9) rfl dX3_stretch_36 ?_
    refine lv_iload_n hx hb dX3_stretch_39 rfl (lv_at hl 4 rfl) ?_
    refine va_iald hx hb hK hP (3) 0 (rfl) rfl (vp_in_nI (show r < 10 by omega) (by decide)) dX3_stretch_40 ?_
    rw [nI_clamp (n := r) (by omega), hsz]
    refine lv_icmp_ge (tgt := 67) hx hb dX3_stretch_41 (by decide) (fun c41 => ?_) (fun c41 => ?_)
    · exact absurd c41 (nI_ge (by omega) (by omega))
    · refine lv_aload_n hx hb dX3_stretch_44 rfl (lv_at hl 3 rfl) ?_
      refine va_get (C := RX3) (T := TX3) (N := 21) (ci := 3) hx hb hts hi_X3 hown hK hP (0) (rfl) rfl 6 (by decide) (hts (.fieldLink RX3 26 "GroupSeatsModel" "seats" "[I") (by decide +kernel)) (fun _ h9 => h9) rfl dX3_stretch_45 ?_
      refine lv_bipush (v := 20) hx hb dX3_stretch_48 (by decide) ?_
      refine lv_iload_n hx hb dX3_stretch_50 rfl (lv_at hl 4 rfl) ?_
      refine lv_imul hx hb dX3_stretch_51 ?_
      refine lv_iload hx hb dX3_stretch_52 (lv_at hl 0 rfl) ?_
      refine lv_iadd hx hb dX3_stretch_54 ?_
      refine va_iald hx hb hK hP (6) 0 (rfl) rfl (in_20 hr10 (show j < 20 by omega)) dX3_stretch_55 ?_
      refine lv_bipush (v := -8) hx hb dX3_stretch_56 (by decide) ?_
      refine lv_icmp_ne (tgt := 67) hx hb dX3_stretch_58 (by decide) (fun c58 => ?_) (fun c58 => ?_)
      · rw [ix_20 hr10 (by omega), ← rowOf_in (g := se) (r := r) (show j < 20 by omega)] at c58
        exact hE j H locs hij (by omega) (rn_full hij (by omega) hfr (fun _ => c58)) (fun _ => c58) hP hD hS ls (lv_sub hl [0, 1, 2, 3, 4, 5] rfl)
      · refine lv_iinc (lv' := [(5, .int _), (4, .int _), (3, .int _), (0, .ref _), (1, .int _), (2, .int _)]) hx hb dX3_stretch_61 hl (k := 0) rfl rfl (by decide) rfl (fun ls hl => ?_)
        refine lv_goto (tgt := 33) hx hb dX3_stretch_64 (by decide) ?_
        rw [ix_20 hr10 (by omega), ← rowOf_in (g := se) (r := r) (show j < 20 by omega)] at c58
        rw [g_inc] at hl
        exact ih (j + 1) H locs (by omega) (by omega) (fun t h1 h2 => (Nat.lt_or_eq_of_le (Nat.le_of_lt_succ h2)).elim (fun q => hfr t h1 q) (fun q => by rw [q]; exact c58)) hP hD hS ls (lv_sub hl [0, 1, 2, 3, 4, 5] rfl)
set_option maxHeartbeats 4000000 in
set_option maxRecDepth 100000 in
theorem lp_str2 {p : Program} {l : Launch} {e : Env} {s : State} {m : MethodId} {args : Array Value} {below : List Frame} {meth : Method} {c : Code} {A : Nat → Prop} {D : va_G} {K : gCl} {ws0 : va_W} {rm : Room} {ma : Nat → Nat} {op st zs ho ba se lx cn pe lt le wa ta : Nat → Int32} {th ll B wt mh fl wl : Int32} {r z w : Nat} (hr10 : r < 10) (hz : z ≤ 20) (hz0 : 0 < z) (hsz : zs r = nI z) (hw : w < 2 ^ 20) (hw0 : 0 < w)
    (I : gIn p s m meth c A yX3_stretch wsX3_stretch cX3_stretch 6 (some .int) args D vwCl (gT K) ws0)  :
    ∀ (k : Nat) (i s0 fo : Nat) (H : Heap) (locs : List Loc), z + 1 ≤ i + k → i ≤ z + 1 → fo ≤ 20 → JM (rowOf se r) z w i s0 fo → va_P D vwCl (mW K ma th ll B wt mh fl wl (nI fo) op st zs ho ba se lx cn pe lt le wa ta) H → va_D A (mW K ma th ll B wt mh fl wl (nI fo) op st zs ho ba se lx cn pe lt le wa ta) → va_S A s.heap H locs →
    ∀ (ls : Array Slot), lv_has ls 6 [(4, .int (nI i)), (3, .int (nI s0)), (0, .ref (ma 0)), (1, .int (nI r)), (2, .int (nI w))] →
    W p l e rm s m args below meth c H locs 0 0 (MQ below (va_Qi (fun r1 w1 => ∃ (x fo : Nat), r1 = nI x ∧ isBs (rowOf se r) z w x ∧ min fo w = valS (rowOf se r) z w x ∧ fo ≤ 20 ∧ w1 = mW K ma th ll B wt mh fl wl (nI fo) op st zs ho ba se lx cn pe lt le wa ta) (gB D vwCl (gT K) A) A) args s 0 0 A) (F0 m 10 ls []) := by
  have I0 := I
  obtain ⟨hx, hb, hr, hml, hown, hts, hlocks, hnm, hA, hK, -, -, -⟩ := I
  have hown : s.vm.findClass RX3 = some m.cls := hown
  have hi_X3 : ∀ w ∈ u_ws RX3 TX3 21, w ∈ wsX3_stretch := by decide +kernel
  intro k
  induction k with
  | zero =>
    intro i s0 fo H locs hi hi2 hf20 hJ hP hD hS ls hl
    refine lv_iload hx hb dX3_stretch_10 (lv_at hl 0 rfl) ?_
    refine lv_aload_n hx hb dX3_stretch_12 rfl (lv_at hl 2 rfl) ?_
    refine va_get (C := RX3) (T := TX3) (N := 21) (ci := 3) hx hb hts hi_X3 hown hK hP (0) (rfl) rfl 3 (by decide) (hts (.fieldLink RX3 16 "GroupSeatsModel" "size" "[I") (by decide +kernel)) (fun _ h9 => h9) rfl dX3_stretch_13 ?_
    refine lv_iload_n hx hb dX3_stretch_16 rfl (lv_at hl 3 rfl) ?_
    refine va_iald hx hb hK hP (3) 0 (rfl) rfl (vp_in_nI (show r < 10 by omega) (by decide)) dX3_stretch_17 ?_
    rw [nI_clamp (n := r) (by omega), hsz]
    refine lv_icmp_ge (tgt := 100) hx hb dX3_stretch_18 (by decide) (fun c18 => ?_) (fun c18 => ?_)
    · refine lv_iload_n hx hb dX3_stretch_100 rfl (lv_at hl 1 rfl) ?_
      exact g_iret hx hb hr hlocks (Nat.le_of_ble_eq_true rfl) (Nat.le_of_ble_eq_true rfl) hK hP hD hS dX3_stretch_101 (by obtain ⟨j1, j2⟩ := JM_end hJ hz0 hw0 (Or.inl ((nI_leI (by omega) (by omega)).mp c18)); exact ⟨s0, fo, rfl, j1, j2, hf20, rfl⟩)
    · exact absurd (nI_le (by omega) (by omega)) c18
  | succ k ih =>
    intro i s0 fo H locs hi hi2 hf20 hJ hP hD hS ls hl
    refine lv_iload hx hb dX3_stretch_10 (lv_at hl 0 rfl) ?_
    refine lv_aload_n hx hb dX3_stretch_12 rfl (lv_at hl 2 rfl) ?_
    refine va_get (C := RX3) (T := TX3) (N := 21) (ci := 3) hx hb hts hi_X3 hown hK hP (0) (rfl) rfl 3 (by decide) (hts (.fieldLink RX3 16 "GroupSeatsModel" "size" "[I") (by decide +kernel)) (fun _ h9 => h9) rfl dX3_stretch_13 ?_
    refine lv_iload_n hx hb dX3_stretch_16 rfl (lv_at hl 3 rfl) ?_
    refine va_iald hx hb hK hP (3) 0 (rfl) rfl (vp_in_nI (show r < 10 by omega) (by decide)) dX3_stretch_17 ?_
    rw [nI_clamp (n := r) (by omega), hsz]
    refine lv_icmp_ge (tgt := 100) hx hb dX3_stretch_18 (by decide) (fun c18 => ?_) (fun c18 => ?_)
    · refine lv_iload_n hx hb dX3_stretch_100 rfl (lv_at hl 1 rfl) ?_
      exact g_iret hx hb hr hlocks (Nat.le_of_ble_eq_true rfl) (Nat.le_of_ble_eq_true rfl) hK hP hD hS dX3_stretch_101 (by obtain ⟨j1, j2⟩ := JM_end hJ hz0 hw0 (Or.inl ((nI_leI (by omega) (by omega)).mp c18)); exact ⟨s0, fo, rfl, j1, j2, hf20, rfl⟩)
    · have hiz : i < z := Nat.lt_of_not_le (fun q => c18 (nI_le q (by omega)))
      refine lv_aload_n hx hb dX3_stretch_21 rfl (lv_at hl 2 rfl) ?_
      refine va_get (C := RX3) (T := TX3) (N := 21) (ci := 3) hx hb hts hi_X3 hown hK hP (0) (rfl) rfl 20 (by decide) (hts (.fieldLink RX3 57 "GroupSeatsModel" "found" "I") (by decide +kernel)) (fun _ h9 => h9) rfl dX3_stretch_22 ?_
      refine lv_iload_n hx hb dX3_stretch_25 rfl (lv_at hl 4 rfl) ?_
      refine lv_icmp_ge (tgt := 100) hx hb dX3_stretch_26 (by decide) (fun c26 => ?_) (fun c26 => ?_)
      · refine lv_iload_n hx hb dX3_stretch_100 rfl (lv_at hl 1 rfl) ?_
        exact g_iret hx hb hr hlocks (Nat.le_of_ble_eq_true rfl) (Nat.le_of_ble_eq_true rfl) hK hP hD hS dX3_stretch_101 (by obtain ⟨j1, j2⟩ := JM_end hJ hz0 hw0 (Or.inr ((nI_leI (by omega) (by omega)).mp c26)); exact ⟨s0, fo, rfl, j1, j2, hf20, rfl⟩)
      · refine lv_iload hx hb dX3_stretch_29 (lv_at hl 0 rfl) ?_
        refine lv_istore (lv' := [(5, .int _), (4, .int _), (3, .int _), (0, .ref _), (1, .int _), (2, .int _)]) hx hb dX3_stretch_31 hl (by decide) rfl (fun ls hl => ?_)
        have hfw : fo < w := Nat.lt_of_not_le (fun q => c26 (nI_le q (by omega)))
        refine lp_str1 (i := i) (w := w) hr10 hz hsz I0 ?_ (z - i) i _ _ (by omega) (by omega) (fun t h1 h2 => by omega) hP hD hS ls (lv_sub hl [0, 1, 2, 3, 4, 5] rfl)
        intro j H locs hij hjz hjr hjs hP hD hS ls hl
        refine lv_iload hx hb dX3_stretch_67 (lv_at hl 0 rfl) ?_
        refine lv_iload hx hb dX3_stretch_69 (lv_at hl 1 rfl) ?_
        refine lv_isub hx hb dX3_stretch_71 ?_
        refine lv_aload_n hx hb dX3_stretch_72 rfl (lv_at hl 3 rfl) ?_
        refine va_get (C := RX3) (T := TX3) (N := 21) (ci := 3) hx hb hts hi_X3 hown hK hP (0) (rfl) rfl 20 (by decide) (hts (.fieldLink RX3 57 "GroupSeatsModel" "found" "I") (by decide +kernel)) (fun _ h9 => h9) rfl dX3_stretch_73 ?_
        rw [pk_sub hij]
        refine lv_icmp_le (tgt := 91) hx hb dX3_stretch_76 (by decide) (fun c76 => ?_) (fun c76 => ?_)
        · refine lv_iload hx hb dX3_stretch_91 (lv_at hl 0 rfl) ?_
          refine lv_iconst (v := 1) hx hb dX3_stretch_93 (by decide) ?_
          refine lv_iadd hx hb dX3_stretch_94 ?_
          refine lv_istore (lv' := [(4, .int _), (5, .int _), (3, .int _), (0, .ref _), (1, .int _), (2, .int _)]) hx hb dX3_stretch_95 hl (by decide) rfl (fun ls hl => ?_)
          refine lv_goto (tgt := 10) hx hb dX3_stretch_97 (by decide) ?_
          have hu := (nI_leI (by omega) (by omega)).mp c76
          rw [nI_1] at hl
          exact ih (j + 1) s0 fo H locs (by omega) (by omega) hf20 (JM_no hJ (by omega) hjr hjz hjs (by omega)) hP hD hS ls (lv_sub hl [0, 2, 3, 4, 5] rfl)
        · refine lv_iload hx hb dX3_stretch_79 (lv_at hl 1 rfl) ?_
          refine lv_istore_n (lv' := [(3, .int _), (5, .int _), (4, .int _), (0, .ref _), (1, .int _), (2, .int _)]) hx hb dX3_stretch_81 rfl hl (by decide) rfl (fun ls hl => ?_)
          refine lv_aload_n hx hb dX3_stretch_82 rfl (lv_at hl 3 rfl) ?_
          refine lv_iload hx hb dX3_stretch_83 (lv_at hl 1 rfl) ?_
          refine lv_iload hx hb dX3_stretch_85 (lv_at hl 2 rfl) ?_
          refine lv_isub hx hb dX3_stretch_87 ?_
          refine va_put (C := RX3) (T := TX3) (N := 21) (ci := 3) (ty := .int) hx hb hts hi_X3 tyX3 tyX3_ok nmX3 hown hK hP hD hS (0) (rfl) rfl 20 (by decide) (hts (.fieldLink RX3 57 "GroupSeatsModel" "found" "I") (by decide +kernel)) (fun _ h9 => h9) rfl (by decide +kernel) rfl rfl (Nat.le_of_ble_eq_true rfl) dX3_stretch_88 (fun H locs hP hD hS => ?_)
          rw [pk_sub hij] at hP hD
          have hP : va_P D vwCl (mW K ma th ll B wt mh fl wl (nI (j - i)) op st zs ho ba se lx cn pe lt le wa ta) H := hP
          have hD : va_D A (mW K ma th ll B wt mh fl wl (nI (j - i)) op st zs ho ba se lx cn pe lt le wa ta) := hD
          refine lv_iload hx hb dX3_stretch_91 (lv_at hl 1 rfl) ?_
          refine lv_iconst (v := 1) hx hb dX3_stretch_93 (by decide) ?_
          refine lv_iadd hx hb dX3_stretch_94 ?_
          refine lv_istore (lv' := [(4, .int _), (3, .int _), (5, .int _), (0, .ref _), (1, .int _), (2, .int _)]) hx hb dX3_stretch_95 hl (by decide) rfl (fun ls hl => ?_)
          refine lv_goto (tgt := 10) hx hb dX3_stretch_97 (by decide) ?_
          have hu : fo < j - i := Nat.lt_of_not_le (fun q => c76 (nI_le q (by omega)))
          rw [nI_1] at hl
          have e9 : j - i = rn (rowOf se r) z i := by omega
          rw [e9] at hP hD
          exact ih (j + 1) i (rn (rowOf se r) z i) H locs (by omega) (by omega) (by omega) (JM_up hJ (by omega) hfw hjr hjz hjs (by omega)) hP hD hS ls (lv_sub hl [0, 1, 3, 4, 5] rfl)
set_option maxHeartbeats 4000000 in
set_option maxRecDepth 100000 in
/-- the model: stretch -/
theorem m_stretch (l : Launch) (D : va_G) (K : gCl) (ma : Nat → Nat) (op st zs ho ba se lx cn pe lt le wa ta : Nat → Int32) (th ll B wt mh fl wl fd : Int32) (r z w : Nat) (sz : Nat) (hr10 : r < 10) (hz : z ≤ 20) (hz0 : 0 < z) (hsz : zs r = nI z) (hw : w < 2 ^ 20) (hw0 : 0 < w) : gMi l yX3_stretch wsX3_stretch ({ frames := 0, cells := 0, slots := 0, locals := 0 } : Room) D vwCl (gT K) [.ref (ma 0), .int (nI r), .int (nI w)] (mW K ma th ll B wt mh fl wl fd op st zs ho ba se lx cn pe lt le wa ta) sz (fun r1 w1 => ∃ (x fo : Nat), r1 = nI x ∧ isBs (rowOf se r) z w x ∧ min fo w = valS (rowOf se r) z w x ∧ fo ≤ 20 ∧ w1 = mW K ma th ll B wt mh fl wl (nI fo) op st zs ho ba se lx cn pe lt le wa ta) 0 0 := by
  refine g_of (cc := cX3_stretch) (maxL := 6) (ret := (some .int)) (Qc := fun A => va_Qi (fun r1 w1 => ∃ (x fo : Nat), r1 = nI x ∧ isBs (rowOf se r) z w x ∧ min fo w = valS (rowOf se r) z w x ∧ fo ≤ 20 ∧ w1 = mW K ma th ll B wt mh fl wl (nI fo) op st zs ho ba se lx cn pe lt le wa ta) (gB D vwCl (gT K) A) A) (by decide) rfl (Nat.le_of_ble_eq_true rfl) ?_
  intro p e s m below meth c A ls I hl
  have I0 := I
  obtain ⟨hx, hb, hr, hml, hown, hts, hlocks, hnm, hA, hK, hP, hD, hS⟩ := I
  have hown : s.vm.findClass RX3 = some m.cls := hown
  have hl : lv_has ls 6 [(0, .ref (ma 0)), (1, .int (nI r)), (2, .int (nI w))] := hl
  have hi_X3 : ∀ w ∈ u_ws RX3 TX3 21, w ∈ wsX3_stretch := by decide +kernel
  refine lv_iconst (v := 0) hx hb dX3_stretch_0 (by decide) ?_
  refine lv_istore_n (lv' := [(3, .int _), (0, .ref _), (1, .int _), (2, .int _)]) hx hb dX3_stretch_1 rfl hl (by decide) rfl (fun ls hl => ?_)
  refine lv_aload_n hx hb dX3_stretch_2 rfl (lv_at hl 1 rfl) ?_
  refine lv_iconst (v := 0) hx hb dX3_stretch_3 (by decide) ?_
  refine va_put (C := RX3) (T := TX3) (N := 21) (ci := 3) (ty := .int) hx hb hts hi_X3 tyX3 tyX3_ok nmX3 hown hK hP hD hS (0) (rfl) rfl 20 (by decide) (hts (.fieldLink RX3 57 "GroupSeatsModel" "found" "I") (by decide +kernel)) (fun _ h9 => h9) rfl (by decide +kernel) rfl rfl (Nat.le_of_ble_eq_true rfl) dX3_stretch_4 (fun H locs hP hD hS => ?_)
  have hP : va_P D vwCl (mW K ma th ll B wt mh fl wl (nI 0) op st zs ho ba se lx cn pe lt le wa ta) H := hP
  have hD : va_D A (mW K ma th ll B wt mh fl wl (nI 0) op st zs ho ba se lx cn pe lt le wa ta) := hD
  refine lv_iconst (v := 0) hx hb dX3_stretch_7 (by decide) ?_
  refine lv_istore (lv' := [(4, .int _), (3, .int _), (0, .ref _), (1, .int _), (2, .int _)]) hx hb dX3_stretch_8 hl (by decide) rfl (fun ls hl => ?_)
  exact lp_str2 hr10 hz hz0 hsz hw hw0 I0 (z + 1) 0 0 0 _ _ (by omega) (by omega) (by omega) JM_0 hP hD hS ls (lv_sub hl [0, 1, 2, 3, 4] rfl)
set_option maxHeartbeats 4000000 in
set_option maxRecDepth 100000 in
/-- the model: takes -/
theorem m_takes (l : Launch) (D : va_G) (K : gCl) (ma : Nat → Nat) (op st zs ho ba se lx cn pe lt le wa ta : Nat → Int32) (th ll wt mh fl wl fd : Int32) (B r z w : Nat) (sz : Nat) (hr10 : r < 10) (hz : z ≤ 20) (hz0 : 0 < z) (hsz : zs r = nI z) (hw : w < 2 ^ 20) (hw0 : 0 < w) : gMi l yX3_takes wsX3_takes ({ frames := 1, cells := 0, slots := 0, locals := 40 } : Room) D vwCl (gT K) [.ref (ma 0), .int (nI r), .int (nI w)] (mW K ma th ll (nI B) wt mh fl wl fd op st zs ho ba se lx cn pe lt le wa ta) sz (fun r1 w1 => ∃ (se1 : Nat → Int32) (fd1 : Int32), w1 = mW K ma th ll (nI B) wt mh fl wl fd1 op st zs ho ba se1 lx cn pe lt le wa ta ∧ r1 = nI (tkC (rowOf se r) z (st r) w) ∧ rowOf se1 r = tkF (nI B) (rowOf se r) z (st r) w ∧ ∀ r2, r2 < 10 → r2 ≠ r → rowOf se1 r2 = rowOf se r2) 0 0 := by
  refine g_of (cc := cX3_takes) (maxL := 4) (ret := (some .int)) (Qc := fun A => va_Qi (fun r1 w1 => ∃ (se1 : Nat → Int32) (fd1 : Int32), w1 = mW K ma th ll (nI B) wt mh fl wl fd1 op st zs ho ba se1 lx cn pe lt le wa ta ∧ r1 = nI (tkC (rowOf se r) z (st r) w) ∧ rowOf se1 r = tkF (nI B) (rowOf se r) z (st r) w ∧ ∀ r2, r2 < 10 → r2 ≠ r → rowOf se1 r2 = rowOf se r2) (gB D vwCl (gT K) A) A) (by decide) rfl (Nat.le_of_ble_eq_true rfl) ?_
  intro p e s m below meth c A ls I hl
  have I0 := I
  obtain ⟨hx, hb, hr, hml, hown, hts, hlocks, hnm, hA, hK, hP, hD, hS⟩ := I
  have hown : s.vm.findClass RX3 = some m.cls := hown
  have hl : lv_has ls 4 [(0, .ref (ma 0)), (1, .int (nI r)), (2, .int (nI w))] := hl
  have hi_X3 : ∀ w ∈ u_ws RX3 TX3 21, w ∈ wsX3_takes := by decide +kernel
  refine lv_aload_n hx hb dX3_takes_0 rfl (lv_at hl 0 rfl) ?_
  refine va_get (C := RX3) (T := TX3) (N := 21) (ci := 3) hx hb hts hi_X3 hown hK hP (0) (rfl) rfl 2 (by decide) (hts (.fieldLink RX3 13 "GroupSeatsModel" "isStrict" "[Z") (by decide +kernel)) (fun _ h9 => h9) rfl dX3_takes_1 ?_
  refine lv_iload_n hx hb dX3_takes_4 rfl (lv_at hl 1 rfl) ?_
  refine va_zald hx hb hK hP (2) 1 (rfl) rfl (vp_in_nI (show r < 10 by omega) (by decide)) dX3_takes_5 ?_
  rw [nI_clamp (n := r) (by omega)]
  refine lv_if_ne (tgt := 17) hx hb dX3_takes_6 (by decide) (fun c6 => ?_) (fun c6 => ?_)
  · refine lv_aload_n hx hb dX3_takes_17 rfl (lv_at hl 0 rfl) ?_
    refine lv_iload_n hx hb dX3_takes_18 rfl (lv_at hl 1 rfl) ?_
    refine lv_iload_n hx hb dX3_takes_19 rfl (lv_at hl 2 rfl) ?_
    refine g_calli (va_runV (As := [.int _, .int _]) (rest := []) ⟨hx, hb, hml, hown, hts⟩ (m_stretch l D K ma op st zs ho ba se lx cn pe lt le wa ta th ll (nI B) wt mh fl wl fd r z w _ hr10 hz hz0 hsz hw hw0) (cwV 2 hts gX3_takes_X3_stretch rfl rfl rfl (by decide +kernel) ⟨(Nat.le_of_ble_eq_true rfl), (Nat.le_of_ble_eq_true rfl)⟩) (g_preV hK hP hD (ci := 3) (q0 := 0) rfl (rfl)) rfl rfl hl.1 rfl (lv_room (Nat.le_of_ble_eq_true rfl)) dX3_takes_20 ⟨Nat.zero_le _, Nat.zero_le _⟩) hD hS hA (fun r20 wv H locs hw1 hP hD hS => ?_)
    obtain ⟨x, fo, er0, eb, ev, hf20, ew0⟩ := hw1
    rw [ew0] at hP hD
    rw [er0]
    have hxz := eb.1
    refine lv_istore_n (lv' := [(3, .int _), (0, .ref _), (1, .int _), (2, .int _)]) hx hb dX3_takes_23 rfl hl (by decide) rfl (fun ls hl => ?_)
    refine lv_aload_n hx hb dX3_takes_24 rfl (lv_at hl 1 rfl) ?_
    refine lv_iload_n hx hb dX3_takes_25 rfl (lv_at hl 2 rfl) ?_
    refine lv_iload_n hx hb dX3_takes_26 rfl (lv_at hl 0 rfl) ?_
    refine lv_aload_n hx hb dX3_takes_27 rfl (lv_at hl 1 rfl) ?_
    refine va_get (C := RX3) (T := TX3) (N := 21) (ci := 3) hx hb hts hi_X3 hown hK hP (0) (rfl) rfl 20 (by decide) (hts (.fieldLink RX3 57 "GroupSeatsModel" "found" "I") (by decide +kernel)) (fun _ h9 => h9) rfl dX3_takes_28 ?_
    refine lv_iload_n hx hb dX3_takes_31 rfl (lv_at hl 3 rfl) ?_
    refine lv_icmp_ge (tgt := 42) hx hb dX3_takes_32 (by decide) (fun c32 => ?_) (fun c32 => ?_)
    · refine lv_iload_n hx hb dX3_takes_42 rfl (lv_at hl 3 rfl) ?_
      refine g_calli (va_runV (As := [.int _, .int _, .int _]) (rest := []) ⟨hx, hb, hml, hown, hts⟩ (m_mark l D K ma op st zs ho ba se lx cn pe lt le wa ta th ll wt mh fl wl (nI fo) B r z x w _ hr10 hz hsz (by omega) hxz) (cwV 3 hts gX3_takes_X3_mark rfl rfl rfl (by decide +kernel) ⟨(Nat.le_of_ble_eq_true rfl), (Nat.le_of_ble_eq_true rfl)⟩) (g_preV hK hP hD (ci := 3) (q0 := 0) rfl (rfl)) rfl rfl hl.1 rfl (lv_room (Nat.le_of_ble_eq_true rfl)) dX3_takes_43 ⟨Nat.zero_le _, Nat.zero_le _⟩) hD hS hA (fun r43 wv H locs hw1 hP hD hS => ?_)
      obtain ⟨se1, ew, er, e1, e2⟩ := hw1
      rw [ew] at hP hD
      rw [er]
      exact g_iret hx hb hr hlocks (Nat.le_of_ble_eq_true rfl) (Nat.le_of_ble_eq_true rfl) hK hP hD hS dX3_takes_46 (by have := (nI_leI (by omega) (by omega)).mp c32; have es : tkS (rowOf se r) z (st r) w = x := (by unfold tkS; rw [if_neg c6]; exact (isBs_eq eb).symm); have en : tkN (rowOf se r) z (st r) w = w := (by unfold tkN; rw [if_neg c6, ← isBs_eq eb, ← ev]; omega); exact ⟨se1, nI fo, rfl, by unfold tkC; rw [es, en], by rw [e1]; unfold tkF; rw [es, en], e2⟩)
    · refine lv_aload_n hx hb dX3_takes_35 rfl (lv_at hl 1 rfl) ?_
      refine va_get (C := RX3) (T := TX3) (N := 21) (ci := 3) hx hb hts hi_X3 hown hK hP (0) (rfl) rfl 20 (by decide) (hts (.fieldLink RX3 57 "GroupSeatsModel" "found" "I") (by decide +kernel)) (fun _ h9 => h9) rfl dX3_takes_36 ?_
      refine lv_goto (tgt := 43) hx hb dX3_takes_39 (by decide) ?_
      refine g_calli (va_runV (As := [.int _, .int _, .int _]) (rest := []) ⟨hx, hb, hml, hown, hts⟩ (m_mark l D K ma op st zs ho ba se lx cn pe lt le wa ta th ll wt mh fl wl (nI fo) B r z x fo _ hr10 hz hsz (by omega) hxz) (cwV 3 hts gX3_takes_X3_mark rfl rfl rfl (by decide +kernel) ⟨(Nat.le_of_ble_eq_true rfl), (Nat.le_of_ble_eq_true rfl)⟩) (g_preV hK hP hD (ci := 3) (q0 := 0) rfl (rfl)) rfl rfl hl.1 rfl (lv_room (Nat.le_of_ble_eq_true rfl)) dX3_takes_43 ⟨Nat.zero_le _, Nat.zero_le _⟩) hD hS hA (fun r43 wv H locs hw1 hP hD hS => ?_)
      obtain ⟨se1, ew, er, e1, e2⟩ := hw1
      rw [ew] at hP hD
      rw [er]
      exact g_iret hx hb hr hlocks (Nat.le_of_ble_eq_true rfl) (Nat.le_of_ble_eq_true rfl) hK hP hD hS dX3_takes_46 (by have : fo < w := Nat.lt_of_not_le (fun q => c32 (nI_le q (by omega))); have es : tkS (rowOf se r) z (st r) w = x := (by unfold tkS; rw [if_neg c6]; exact (isBs_eq eb).symm); have en : tkN (rowOf se r) z (st r) w = fo := (by unfold tkN; rw [if_neg c6, ← isBs_eq eb, ← ev]; omega); exact ⟨se1, nI fo, rfl, by unfold tkC; rw [es, en], by rw [e1]; unfold tkF; rw [es, en], e2⟩)
  · refine lv_aload_n hx hb dX3_takes_9 rfl (lv_at hl 0 rfl) ?_
    refine lv_iload_n hx hb dX3_takes_10 rfl (lv_at hl 1 rfl) ?_
    refine lv_iconst (v := 0) hx hb dX3_takes_11 (by decide) ?_
    refine lv_iload_n hx hb dX3_takes_12 rfl (lv_at hl 2 rfl) ?_
    refine g_calli (va_runV (As := [.int _, .int _, .int _]) (rest := []) ⟨hx, hb, hml, hown, hts⟩ (m_mark l D K ma op st zs ho ba se lx cn pe lt le wa ta th ll wt mh fl wl fd B r z 0 w _ hr10 hz hsz hw (by omega)) (cwV 3 hts gX3_takes_X3_mark rfl rfl rfl (by decide +kernel) ⟨(Nat.le_of_ble_eq_true rfl), (Nat.le_of_ble_eq_true rfl)⟩) (g_preV hK hP hD (ci := 3) (q0 := 0) rfl (rfl)) rfl rfl hl.1 rfl (lv_room (Nat.le_of_ble_eq_true rfl)) dX3_takes_13 ⟨Nat.zero_le _, Nat.zero_le _⟩) hD hS hA (fun r13 wv H locs hw1 hP hD hS => ?_)
    obtain ⟨se1, ew, er, e1, e2⟩ := hw1
    rw [ew] at hP hD
    rw [er]
    exact g_iret hx hb hr hlocks (Nat.le_of_ble_eq_true rfl) (Nat.le_of_ble_eq_true rfl) hK hP hD hS dX3_takes_16 (⟨se1, fd, rfl, by unfold tkC tkS tkN; rw [if_pos c6, if_pos c6], by rw [e1]; unfold tkF tkS tkN; rw [if_pos c6, if_pos c6], e2⟩)
end
section
theorem g_dec {i : Nat} : nI i + Int32.ofInt (-1) = nI i - 1 := by rw [Int32.sub_eq_add_neg]; rfl
theorem upd_id (f : Nat → Int32) (i : Nat) : upd f i (f i) = f := by
  funext j
  by_cases h : j = i
  · subst h; simp [upd]
  · simp [upd, h]
theorem rowOf_freeV {g : Nat → Int32} {b : Int32} {r : Nat} (hr : r < 10) : rowOf (freeV g b 200) r = freeV (rowOf g r) b 20 := by
  funext j
  by_cases h : j < 20
  · simp [rowOf, freeV, h, show 20 * r + j < 200 by omega]
  · simp [rowOf, freeV, h]
/-- the model's rows are those of the hall, where they are open -/
def MS (z : Nat → Nat) (sd : Nat → Int32) (op st zs se : Nat → Int32) (ow : Nat → Nat → Int32) : Prop := ∀ r, r < 10 → op r = (if z r = 0 then 0 else 1) ∧ (z r ≠ 0 → zs r = nI (z r) ∧ st r = sd r ∧ rowOf se r = ow r)
/-- owners that come from others by giving free seats to b -/
def GV (b : Int32) (ow oc : Nat → Nat → Int32) : Prop := ∀ r j, oc r j = ow r j ∨ (oc r j = b ∧ ow r j = -8 ∧ j < 20)
theorem GV_0 {b : Int32} {ow : Nat → Nat → Int32} : GV b ow ow := fun _ _ => Or.inl rfl
theorem GV_tk {b : Int32} (hb : b ≠ -8) {ow oc : Nat → Nat → Int32} {r z : Nat} {sd : Int32} {w : Nat} (hz : z ≤ 20) (h : GV b ow oc) : GV b ow (va_up oc r (tkF b (oc r) z sd w)) := by
  intro r2 j
  by_cases e : r2 = r
  · subst e
    rw [va_up_self]
    have hs := tkS_le (oc r2) z sd w
    rcases mkF_at b (z - tkS (oc r2) z sd w) (tkS (oc r2) z sd w) (tkN (oc r2) z sd w) (oc r2) j with q | ⟨q1, q2, q3, q4⟩
    · rw [show tkF b (oc r2) z sd w j = oc r2 j from q]
      exact h r2 j
    · rw [show tkF b (oc r2) z sd w j = b from q1]
      rcases h r2 j with a | ⟨a, _, _⟩
      · exact Or.inr ⟨rfl, by rw [← a]; exact q2, by omega⟩
      · exact absurd (a.symm.trans q2) hb
  · rw [va_up_ne _ _ e]
    exact h r2 j
theorem GV_back {b : Int32} {ow oc : Nat → Nat → Int32} (h : GV b ow oc) {r : Nat} (hn : ∀ j, j < 20 → ow r j ≠ b) : freeV (oc r) b 20 = ow r := by
  funext j
  unfold freeV
  split
  · rename_i q
    rcases h r j with a | ⟨_, a, _⟩
    · exact absurd (a.symm.trans q.2) (hn j q.1)
    · exact a.symm
  · rename_i q
    rcases h r j with a | ⟨a, _, c⟩
    · exact a
    · exact absurd ⟨c, a⟩ q
theorem MS_tk {z : Nat → Nat} {sd : Nat → Int32} {op st zs se se1 : Nat → Int32} {oc : Nat → Nat → Int32} {r : Nat} {f : Nat → Int32} (h : MS z sd op st zs se oc) (h1 : rowOf se1 r = f) (h2 : ∀ r2, r2 < 10 → r2 ≠ r → rowOf se1 r2 = rowOf se r2) : MS z sd op st zs se1 (va_up oc r f) := fun r2 hr2 => by
  refine ⟨(h r2 hr2).1, fun hz => ?_⟩
  obtain ⟨a, b, c⟩ := (h r2 hr2).2 hz
  refine ⟨a, b, ?_⟩
  by_cases e : r2 = r
  · subst e; rw [va_up_self]; exact h1
  · rw [va_up_ne _ _ e, h2 r2 hr2 e]; exact c
theorem MS_back {z : Nat → Nat} {sd : Nat → Int32} {op st zs se : Nat → Int32} {ow oc : Nat → Nat → Int32} {b : Int32} (h : MS z sd op st zs se oc) (hg : GV b ow oc) (hn : ∀ r, r < 10 → z r ≠ 0 → ∀ j, j < 20 → ow r j ≠ b) : MS z sd op st zs (freeV se b 200) ow := fun r hr => by
  refine ⟨(h r hr).1, fun hz => ?_⟩
  obtain ⟨a, b, c⟩ := (h r hr).2 hz
  exact ⟨a, b, by rw [rowOf_freeV hr, c]; exact GV_back hg (hn r hr hz)⟩
set_option maxHeartbeats 4000000 in
set_option maxRecDepth 100000 in
theorem lp_mgb2 {p : Program} {l : Launch} {e : Env} {s : State} {m : MethodId} {args : Array Value} {below : List Frame} {meth : Method} {c : Code} {A : Nat → Prop} {D : va_G} {K : gCl} {ws0 : va_W} {rm : Room} {ma : Nat → Nat} {op st zs ho ba se lx cn pe lt le wa ta : Nat → Int32} {th ll wt mh fl wl fd : Int32} {B k0 : Nat}
    (I : gIn p s m meth c A yX3_giveBack wsX3_giveBack cX3_giveBack 3 none args D vwCl (gT K) ws0)  :
    ∀ (k : Nat) (i : Nat) (H : Heap) (locs : List Loc), i + k = 200 → va_P D vwCl (mW K ma th ll (nI B) wt mh fl wl fd op st zs ho ba (freeV se (nI B) i) lx cn pe lt le wa ta) H → va_D A (mW K ma th ll (nI B) wt mh fl wl fd op st zs ho ba (freeV se (nI B) i) lx cn pe lt le wa ta) → va_S A s.heap H locs →
    ∀ (ls : Array Slot), lv_has ls 3 [(2, .int (nI i)), (0, .ref (ma 0)), (1, .int (nI k0))] →
    W p l e rm s m args below meth c H locs 0 0 (MQ below (va_Qv (fun w1 => ∃ ba1 : Nat → Int32, w1 = mW K ma th ll (nI B) wt mh fl wl fd op st zs ho ba1 (freeV se (nI B) 200) lx cn pe lt le wa ta) (gB D vwCl (gT K) A) A) args s 0 0 A) (F0 m 44 ls []) := by
  have I0 := I
  obtain ⟨hx, hb, hr, hml, hown, hts, hlocks, hnm, hA, hK, -, -, -⟩ := I
  have hown : s.vm.findClass RX3 = some m.cls := hown
  have hi_X3 : ∀ w ∈ u_ws RX3 TX3 21, w ∈ wsX3_giveBack := by decide +kernel
  intro k
  induction k with
  | zero =>
    intro i H locs hi hP hD hS ls hl
    have hi2 : i = 200 := by omega
    subst hi2
    refine lv_iload_n hx hb dX3_giveBack_44 rfl (lv_at hl 0 rfl) ?_
    refine lv_sipush (v := 200) hx hb dX3_giveBack_45 (by decide) ?_
    refine lv_icmp_ge (tgt := 87) hx hb dX3_giveBack_48 (by decide) (fun c48 => ?_) (fun c48 => ?_)
    · exact g_vret hx hb hr hlocks (Nat.le_of_ble_eq_true rfl) (Nat.le_of_ble_eq_true rfl) hK hP hD hS dX3_giveBack_87 (⟨ba, rfl⟩)
    · exact absurd (nI_le (a := 200) (by omega) (by omega)) c48
  | succ k ih =>
    intro i H locs hi hP hD hS ls hl
    refine lv_iload_n hx hb dX3_giveBack_44 rfl (lv_at hl 0 rfl) ?_
    refine lv_sipush (v := 200) hx hb dX3_giveBack_45 (by decide) ?_
    refine lv_icmp_ge (tgt := 87) hx hb dX3_giveBack_48 (by decide) (fun c48 => ?_) (fun c48 => ?_)
    · exact absurd c48 (nI_ge (b := 200) (by omega) (by decide))
    · refine lv_aload_n hx hb dX3_giveBack_51 rfl (lv_at hl 1 rfl) ?_
      refine va_get (C := RX3) (T := TX3) (N := 21) (ci := 3) hx hb hts hi_X3 hown hK hP (0) (rfl) rfl 6 (by decide) (hts (.fieldLink RX3 26 "GroupSeatsModel" "seats" "[I") (by decide +kernel)) (fun _ h9 => h9) rfl dX3_giveBack_52 ?_
      refine lv_iload_n hx hb dX3_giveBack_55 rfl (lv_at hl 0 rfl) ?_
      refine lv_aload_n hx hb dX3_giveBack_56 rfl (lv_at hl 1 rfl) ?_
      refine va_get (C := RX3) (T := TX3) (N := 21) (ci := 3) hx hb hts hi_X3 hown hK hP (0) (rfl) rfl 6 (by decide) (hts (.fieldLink RX3 26 "GroupSeatsModel" "seats" "[I") (by decide +kernel)) (fun _ h9 => h9) rfl dX3_giveBack_57 ?_
      refine lv_iload_n hx hb dX3_giveBack_60 rfl (lv_at hl 0 rfl) ?_
      refine va_iald hx hb hK hP (6) 0 (rfl) rfl (vp_in_nI (show i < 200 by omega) (by decide)) dX3_giveBack_61 ?_
      refine lv_aload_n hx hb dX3_giveBack_62 rfl (lv_at hl 1 rfl) ?_
      refine va_get (C := RX3) (T := TX3) (N := 21) (ci := 3) hx hb hts hi_X3 hown hK hP (0) (rfl) rfl 9 (by decide) (hts (.fieldLink RX3 54 "GroupSeatsModel" "bookings" "I") (by decide +kernel)) (fun _ h9 => h9) rfl dX3_giveBack_63 ?_
      refine lv_icmp_ne (tgt := 74) hx hb dX3_giveBack_66 (by decide) (fun c66 => ?_) (fun c66 => ?_)
      · refine lv_aload_n hx hb dX3_giveBack_74 rfl (lv_at hl 1 rfl) ?_
        refine va_get (C := RX3) (T := TX3) (N := 21) (ci := 3) hx hb hts hi_X3 hown hK hP (0) (rfl) rfl 6 (by decide) (hts (.fieldLink RX3 26 "GroupSeatsModel" "seats" "[I") (by decide +kernel)) (fun _ h9 => h9) rfl dX3_giveBack_75 ?_
        refine lv_iload_n hx hb dX3_giveBack_78 rfl (lv_at hl 0 rfl) ?_
        refine va_iald hx hb hK hP (6) 0 (rfl) rfl (vp_in_nI (show i < 200 by omega) (by decide)) dX3_giveBack_79 ?_
        refine va_iast hx hb hK hP hD hS (6) 0 (rfl) rfl (vp_in_nI (show i < 200 by omega) (by decide)) dX3_giveBack_80 (fun H locs hP hD hS => ?_)
        have hP : va_P D vwCl (mW K ma th ll (nI B) wt mh fl wl fd op st zs ho ba (upd (freeV se (nI B) i) (nI i).toNatClampNeg ((freeV se (nI B) i) (nI i).toNatClampNeg)) lx cn pe lt le wa ta) H := hP
        have hD : va_D A (mW K ma th ll (nI B) wt mh fl wl fd op st zs ho ba (upd (freeV se (nI B) i) (nI i).toNatClampNeg ((freeV se (nI B) i) (nI i).toNatClampNeg)) lx cn pe lt le wa ta) := hD
        refine lv_iinc (lv' := [(2, .int _), (0, .ref _), (1, .int _)]) hx hb dX3_giveBack_81 hl (k := 0) rfl rfl (by decide) rfl (fun ls hl => ?_)
        refine lv_goto (tgt := 44) hx hb dX3_giveBack_84 (by decide) ?_
        rw [nI_clamp (n := i) (by omega), freeV_at] at c66
        rw [g_inc] at hl
        rw [nI_clamp (n := i) (by omega), upd_id, freeV_no c66] at hP hD
        exact ih (i + 1) H locs (by omega) hP hD hS ls (lv_sub hl [0, 1, 2] rfl)
      · refine lv_bipush (v := -8) hx hb dX3_giveBack_69 (by decide) ?_
        refine lv_goto (tgt := 80) hx hb dX3_giveBack_71 (by decide) ?_
        refine va_iast hx hb hK hP hD hS (6) 0 (rfl) rfl (vp_in_nI (show i < 200 by omega) (by decide)) dX3_giveBack_80 (fun H locs hP hD hS => ?_)
        have hP : va_P D vwCl (mW K ma th ll (nI B) wt mh fl wl fd op st zs ho ba (upd (freeV se (nI B) i) (nI i).toNatClampNeg (-8)) lx cn pe lt le wa ta) H := hP
        have hD : va_D A (mW K ma th ll (nI B) wt mh fl wl fd op st zs ho ba (upd (freeV se (nI B) i) (nI i).toNatClampNeg (-8)) lx cn pe lt le wa ta) := hD
        refine lv_iinc (lv' := [(2, .int _), (0, .ref _), (1, .int _)]) hx hb dX3_giveBack_81 hl (k := 0) rfl rfl (by decide) rfl (fun ls hl => ?_)
        refine lv_goto (tgt := 44) hx hb dX3_giveBack_84 (by decide) ?_
        rw [nI_clamp (n := i) (by omega), freeV_at] at c66
        rw [g_inc] at hl
        rw [nI_clamp (n := i) (by omega), freeV_yes c66] at hP hD
        exact ih (i + 1) H locs (by omega) hP hD hS ls (lv_sub hl [0, 1, 2] rfl)
set_option maxHeartbeats 4000000 in
set_option maxRecDepth 100000 in
theorem lp_mgb1 {p : Program} {l : Launch} {e : Env} {s : State} {m : MethodId} {args : Array Value} {below : List Frame} {meth : Method} {c : Code} {A : Nat → Prop} {D : va_G} {K : gCl} {ws0 : va_W} {rm : Room} {ma : Nat → Nat} {op st zs ho se lx cn pe lt le wa ta : Nat → Int32} {th ll wt mh fl wl fd : Int32} {B k0 : Nat} (hk6 : k0 ≤ 6) (hway : ∀ t, t < k0 → ∃ r, r < 10 ∧ wa t = nI r)
    (I : gIn p s m meth c A yX3_giveBack wsX3_giveBack cX3_giveBack 3 none args D vwCl (gT K) ws0)  :
    ∀ (k : Nat) (ba : Nat → Int32) (H : Heap) (locs : List Loc), k ≤ k0 → va_P D vwCl (mW K ma th ll (nI B) wt mh fl wl fd op st zs ho ba se lx cn pe lt le wa ta) H → va_D A (mW K ma th ll (nI B) wt mh fl wl fd op st zs ho ba se lx cn pe lt le wa ta) → va_S A s.heap H locs →
    ∀ (ls : Array Slot), lv_has ls 3 [(2, .int (nI k - 1)), (0, .ref (ma 0)), (1, .int (nI k0))] →
    W p l e rm s m args below meth c H locs 0 0 (MQ below (va_Qv (fun w1 => ∃ ba1 : Nat → Int32, w1 = mW K ma th ll (nI B) wt mh fl wl fd op st zs ho ba1 (freeV se (nI B) 200) lx cn pe lt le wa ta) (gB D vwCl (gT K) A) A) args s 0 0 A) (F0 m 4 ls []) := by
  have I0 := I
  obtain ⟨hx, hb, hr, hml, hown, hts, hlocks, hnm, hA, hK, -, -, -⟩ := I
  have hown : s.vm.findClass RX3 = some m.cls := hown
  have hi_X3 : ∀ w ∈ u_ws RX3 TX3 21, w ∈ wsX3_giveBack := by decide +kernel
  intro k
  induction k with
  | zero =>
    intro ba H locs hi hP hD hS ls hl
    rw [show nI 0 - 1 = -1 from rfl] at hl
    refine lv_iload_n hx hb dX3_giveBack_4 rfl (lv_at hl 0 rfl) ?_
    refine lv_if_lt (tgt := 42) hx hb dX3_giveBack_5 (by decide) (fun c5 => ?_) (fun c5 => ?_)
    · refine lv_iconst (v := 0) hx hb dX3_giveBack_42 (by decide) ?_
      refine lv_istore_n (lv' := [(2, .int _), (0, .ref _), (1, .int _)]) hx hb dX3_giveBack_43 rfl hl (by decide) rfl (fun ls hl => ?_)
      exact lp_mgb2 I0 200 0 _ _ (by omega) (by rw [freeV_0]; exact hP) (by rw [freeV_0]; exact hD) hS ls (lv_sub hl [0, 1, 2] rfl)
    · exact absurd (by decide) c5
  | succ k ih =>
    intro ba H locs hi hP hD hS ls hl
    rw [nI_pred] at hl
    have hwi : vp_in (wa (nI k).toNatClampNeg) 10 := by rw [nI_clamp (by omega)]; obtain ⟨r, hr, e9⟩ := hway k (by omega); rw [e9]; exact vp_in_nI hr (by decide)
    refine lv_iload_n hx hb dX3_giveBack_4 rfl (lv_at hl 0 rfl) ?_
    refine lv_if_lt (tgt := 42) hx hb dX3_giveBack_5 (by decide) (fun c5 => ?_) (fun c5 => ?_)
    · exact absurd c5 (nI_pos (by omega))
    · refine lv_aload_n hx hb dX3_giveBack_8 rfl (lv_at hl 1 rfl) ?_
      refine va_get (C := RX3) (T := TX3) (N := 21) (ci := 3) hx hb hts hi_X3 hown hK hP (0) (rfl) rfl 5 (by decide) (hts (.fieldLink RX3 23 "GroupSeatsModel" "back" "[I") (by decide +kernel)) (fun _ h9 => h9) rfl dX3_giveBack_9 ?_
      refine lv_aload_n hx hb dX3_giveBack_12 rfl (lv_at hl 1 rfl) ?_
      refine va_get (C := RX3) (T := TX3) (N := 21) (ci := 3) hx hb hts hi_X3 hown hK hP (0) (rfl) rfl 17 (by decide) (hts (.fieldLink RX3 44 "GroupSeatsModel" "way" "[I") (by decide +kernel)) (fun _ h9 => h9) rfl dX3_giveBack_13 ?_
      refine lv_iload_n hx hb dX3_giveBack_16 rfl (lv_at hl 0 rfl) ?_
      refine va_iald hx hb hK hP (12) 0 (rfl) rfl (vp_in_nI (show k < 6 by omega) (by decide)) dX3_giveBack_17 ?_
      refine lv_dup2_11 hx hb dX3_giveBack_18 rfl rfl ?_
      refine va_iald hx hb hK hP (5) 0 (rfl) rfl (hwi) dX3_giveBack_19 ?_
      refine lv_aload_n hx hb dX3_giveBack_20 rfl (lv_at hl 1 rfl) ?_
      refine va_get (C := RX3) (T := TX3) (N := 21) (ci := 3) hx hb hts hi_X3 hown hK hP (0) (rfl) rfl 19 (by decide) (hts (.fieldLink RX3 47 "GroupSeatsModel" "taken" "[I") (by decide +kernel)) (fun _ h9 => h9) rfl dX3_giveBack_21 ?_
      refine lv_iload_n hx hb dX3_giveBack_24 rfl (lv_at hl 0 rfl) ?_
      refine va_iald hx hb hK hP (13) 0 (rfl) rfl (vp_in_nI (show k < 6 by omega) (by decide)) dX3_giveBack_25 ?_
      refine lv_if_le (tgt := 33) hx hb dX3_giveBack_26 (by decide) (fun c26 => ?_) (fun c26 => ?_)
      · refine lv_iconst (v := 0) hx hb dX3_giveBack_33 (by decide) ?_
        refine lv_iadd hx hb dX3_giveBack_34 ?_
        refine va_iast hx hb hK hP hD hS (5) 0 (rfl) rfl (hwi) dX3_giveBack_35 (fun H locs hP hD hS => ?_)
        have hP : va_P D vwCl (mW K ma th ll (nI B) wt mh fl wl fd op st zs ho (upd ba (wa (nI k).toNatClampNeg).toNatClampNeg (ba (wa (nI k).toNatClampNeg).toNatClampNeg + 0)) se lx cn pe lt le wa ta) H := hP
        have hD : va_D A (mW K ma th ll (nI B) wt mh fl wl fd op st zs ho (upd ba (wa (nI k).toNatClampNeg).toNatClampNeg (ba (wa (nI k).toNatClampNeg).toNatClampNeg + 0)) se lx cn pe lt le wa ta) := hD
        refine lv_iinc (lv' := [(2, .int _), (0, .ref _), (1, .int _)]) hx hb dX3_giveBack_36 hl (k := 0) rfl rfl (by decide) rfl (fun ls hl => ?_)
        refine lv_goto (tgt := 4) hx hb dX3_giveBack_39 (by decide) ?_
        rw [g_dec] at hl
        exact ih _ H locs (by omega) hP hD hS ls (lv_sub hl [0, 1, 2] rfl)
      · refine lv_iconst (v := 1) hx hb dX3_giveBack_29 (by decide) ?_
        refine lv_goto (tgt := 34) hx hb dX3_giveBack_30 (by decide) ?_
        refine lv_iadd hx hb dX3_giveBack_34 ?_
        refine va_iast hx hb hK hP hD hS (5) 0 (rfl) rfl (hwi) dX3_giveBack_35 (fun H locs hP hD hS => ?_)
        have hP : va_P D vwCl (mW K ma th ll (nI B) wt mh fl wl fd op st zs ho (upd ba (wa (nI k).toNatClampNeg).toNatClampNeg (ba (wa (nI k).toNatClampNeg).toNatClampNeg + 1)) se lx cn pe lt le wa ta) H := hP
        have hD : va_D A (mW K ma th ll (nI B) wt mh fl wl fd op st zs ho (upd ba (wa (nI k).toNatClampNeg).toNatClampNeg (ba (wa (nI k).toNatClampNeg).toNatClampNeg + 1)) se lx cn pe lt le wa ta) := hD
        refine lv_iinc (lv' := [(2, .int _), (0, .ref _), (1, .int _)]) hx hb dX3_giveBack_36 hl (k := 0) rfl rfl (by decide) rfl (fun ls hl => ?_)
        refine lv_goto (tgt := 4) hx hb dX3_giveBack_39 (by decide) ?_
        rw [g_dec] at hl
        exact ih _ H locs (by omega) hP hD hS ls (lv_sub hl [0, 1, 2] rfl)
set_option maxHeartbeats 4000000 in
set_option maxRecDepth 100000 in
/-- the model: giveBack -/
theorem m_giveBack (l : Launch) (D : va_G) (K : gCl) (ma : Nat → Nat) (op st zs ho ba se lx cn pe lt le wa ta : Nat → Int32) (th ll wt mh fl wl fd : Int32) (B k0 : Nat) (sz : Nat) (hk6 : k0 ≤ 6) (hway : ∀ t, t < k0 → ∃ r, r < 10 ∧ wa t = nI r) : gMv l yX3_giveBack wsX3_giveBack ({ frames := 0, cells := 0, slots := 0, locals := 0 } : Room) D vwCl (gT K) [.ref (ma 0), .int (nI k0)] (mW K ma th ll (nI B) wt mh fl wl fd op st zs ho ba se lx cn pe lt le wa ta) sz (fun w1 => ∃ ba1 : Nat → Int32, w1 = mW K ma th ll (nI B) wt mh fl wl fd op st zs ho ba1 (freeV se (nI B) 200) lx cn pe lt le wa ta) 0 0 := by
  refine g_of (cc := cX3_giveBack) (maxL := 3) (ret := none) (Qc := fun A => va_Qv (fun w1 => ∃ ba1 : Nat → Int32, w1 = mW K ma th ll (nI B) wt mh fl wl fd op st zs ho ba1 (freeV se (nI B) 200) lx cn pe lt le wa ta) (gB D vwCl (gT K) A) A) (by decide) rfl (Nat.le_of_ble_eq_true rfl) ?_
  intro p e s m below meth c A ls I hl
  have I0 := I
  obtain ⟨hx, hb, hr, hml, hown, hts, hlocks, hnm, hA, hK, hP, hD, hS⟩ := I
  have hown : s.vm.findClass RX3 = some m.cls := hown
  have hl : lv_has ls 3 [(0, .ref (ma 0)), (1, .int (nI k0))] := hl
  have hi_X3 : ∀ w ∈ u_ws RX3 TX3 21, w ∈ wsX3_giveBack := by decide +kernel
  refine lv_iload_n hx hb dX3_giveBack_0 rfl (lv_at hl 1 rfl) ?_
  refine lv_iconst (v := 1) hx hb dX3_giveBack_1 (by decide) ?_
  refine lv_isub hx hb dX3_giveBack_2 ?_
  refine lv_istore_n (lv' := [(2, .int _), (0, .ref _), (1, .int _)]) hx hb dX3_giveBack_3 rfl hl (by decide) rfl (fun ls hl => ?_)
  exact lp_mgb1 hk6 hway I0 k0 ba _ _ (by omega) hP hD hS ls (lv_sub hl [0, 1, 2] rfl)
def mTo (K : gCl) (ma : Nat → Nat) (z : Nat → Nat) (sd : Nat → Int32) (th ll wt : Int32) (B : Nat) (fl wl : Int32) (op st zs lx cn pe lt le wa : Nat → Int32) (ow : Nat → Nat → Int32) (G : Int32 × (Nat → Nat → Int32) × Nat) : Int32 → va_W → Prop := fun r1 w1 =>
  (G.1 = 0 → r1 = nI B ∧ ∃ (ho1 ba1 se1 ta1 : Nat → Int32) (fd1 : Int32), w1 = mW K ma th ll (nI (B + 1)) wt (nI G.2.2) fl wl fd1 op st zs ho1 ba1 se1 lx cn pe lt le wa ta1 ∧ MS z sd op st zs se1 G.2.1) ∧ (G.1 ≠ 0 → r1 = G.1 ∧ ∃ (ho1 ba1 se1 ta1 : Nat → Int32) (fd1 : Int32), w1 = mW K ma th ll (nI B) wt (nI G.2.2) (fl + 1) wl fd1 op st zs ho1 ba1 se1 lx cn pe lt le wa ta1 ∧ MS z sd op st zs se1 ow)
set_option maxHeartbeats 4000000 in
set_option maxRecDepth 100000 in
theorem m_fin {p : Program} {l : Launch} {e : Env} {s : State} {m : MethodId} {args : Array Value} {below : List Frame} {meth : Method} {c : Code} {A : Nat → Prop} {D : va_G} {K : gCl} {ws0 : va_W} {ma : Nat → Nat} {op st zs lx cn pe lt le wa : Nat → Int32} {th ll wt fl : Int32} {z : Nat → Nat} {sd : Nat → Int32} {ow : Nat → Nat → Int32} {B n : Nat} {mo : Int32} {L : List Nat} {GF : Int32 × (Nat → Nat → Int32) × Nat} {oc : Nat → Nat → Int32} {w k0 mh : Nat} {fc fd : Int32} {ho ba ta g : Nat → Int32} (hz : ∀ r, r < 10 → z r ≤ 20) (hL : isL wa L) (hB : B < 100) (hn60 : n ≤ 60) (hNB : ∀ r, r < 10 → z r ≠ 0 → ∀ j, j < 20 → ow r j ≠ nI B) (hfc : fc ≠ 0) (hk6 : k0 ≤ 6) (hw60 : w ≤ 60) (hway : ∀ t, t < k0 → ∃ r, r < 10 ∧ wa t = nI r) (hMS : MS z sd op st zs g oc) (hGV : GV (nI B) ow oc) (hGF : (if w = 0 then 0 else if mo = 1 ∧ w < n then 0 else fc, oc, mh) = GF)
    (I : gIn p s m meth c A yX3_goes wsX3_goes cX3_goes 8 (some .int) args D vwCl (gT K) ws0) {H : Heap} {locs : List Loc} (hP : va_P D vwCl (mW K ma th ll (nI B) wt (nI mh) fl (nI L.length) fd op st zs ho ba g lx cn pe lt le wa ta) H) (hD : va_D A (mW K ma th ll (nI B) wt (nI mh) fl (nI L.length) fd op st zs ho ba g lx cn pe lt le wa ta)) (hS : va_S A s.heap H locs) {ls : Array Slot} (hl : lv_has ls 8 [(3, .int (nI w)), (4, .int fc), (5, .int (nI k0)), (0, .ref (ma 0)), (1, .int (nI n)), (2, .int mo)]) :
    W p l e ({ frames := 3, cells := 0, slots := 0, locals := 120 } : Room) s m args below meth c H locs 0 0 (MQ below (va_Qi (mTo K ma z sd th ll wt B fl (nI L.length) op st zs lx cn pe lt le wa ow GF) (gB D vwCl (gT K) A) A) args s 0 0 A) (F0 m 139 ls []) := by
  obtain ⟨hx, hb, hr, hml, hown, hts, hlocks, hnm, hA, hK, -, -, -⟩ := I
  have hown : s.vm.findClass RX3 = some m.cls := hown
  have hi_X3 : ∀ w ∈ u_ws RX3 TX3 21, w ∈ wsX3_goes := by decide +kernel
  refine lv_iload_n hx hb dX3_goes_139 rfl (lv_at hl 0 rfl) ?_
  refine lv_if_eq (tgt := 153) hx hb dX3_goes_140 (by decide) (fun c140 => ?_) (fun c140 => ?_)
  · refine lv_aload_n hx hb dX3_goes_153 rfl (lv_at hl 3 rfl) ?_
    refine lv_dup hx hb dX3_goes_154 rfl ?_
    refine va_get (C := RX3) (T := TX3) (N := 21) (ci := 3) hx hb hts hi_X3 hown hK hP (0) (rfl) rfl 9 (by decide) (hts (.fieldLink RX3 54 "GroupSeatsModel" "bookings" "I") (by decide +kernel)) (fun _ h9 => h9) rfl dX3_goes_155 ?_
    refine lv_iconst (v := 1) hx hb dX3_goes_158 (by decide) ?_
    refine lv_iadd hx hb dX3_goes_159 ?_
    refine va_put (C := RX3) (T := TX3) (N := 21) (ci := 3) (ty := .int) hx hb hts hi_X3 tyX3 tyX3_ok nmX3 hown hK hP hD hS (0) (rfl) rfl 9 (by decide) (hts (.fieldLink RX3 54 "GroupSeatsModel" "bookings" "I") (by decide +kernel)) (fun _ h9 => h9) rfl (by decide +kernel) rfl rfl (Nat.le_of_ble_eq_true rfl) dX3_goes_160 (fun H locs hP hD hS => ?_)
    have hP : va_P D vwCl (mW K ma th ll (nI B + 1) wt (nI mh) fl (nI L.length) fd op st zs ho ba g lx cn pe lt le wa ta) H := hP
    have hD : va_D A (mW K ma th ll (nI B + 1) wt (nI mh) fl (nI L.length) fd op st zs ho ba g lx cn pe lt le wa ta) := hD
    rw [nI_1 B] at hP hD
    refine lv_aload_n hx hb dX3_goes_163 rfl (lv_at hl 3 rfl) ?_
    refine va_get (C := RX3) (T := TX3) (N := 21) (ci := 3) hx hb hts hi_X3 hown hK hP (0) (rfl) rfl 9 (by decide) (hts (.fieldLink RX3 54 "GroupSeatsModel" "bookings" "I") (by decide +kernel)) (fun _ h9 => h9) rfl dX3_goes_164 ?_
    refine lv_iconst (v := 1) hx hb dX3_goes_167 (by decide) ?_
    refine lv_isub hx hb dX3_goes_168 ?_
    exact g_iret hx hb hr hlocks (Nat.le_of_ble_eq_true rfl) (Nat.le_of_ble_eq_true rfl) hK hP hD hS dX3_goes_169 (by have hw0 : w = 0 := (nI_eq (by omega) (by decide)).mp c140; rw [if_pos hw0] at hGF; subst hGF; exact ⟨fun _ => ⟨nI_pred B, ho, ba, g, ta, fd, rfl, hMS⟩, fun q => absurd rfl q⟩)
  · refine lv_iload_n hx hb dX3_goes_143 rfl (lv_at hl 5 rfl) ?_
    refine lv_iconst (v := 1) hx hb dX3_goes_144 (by decide) ?_
    refine lv_icmp_ne (tgt := 170) hx hb dX3_goes_145 (by decide) (fun c145 => ?_) (fun c145 => ?_)
    · refine lv_aload_n hx hb dX3_goes_170 rfl (lv_at hl 3 rfl) ?_
      refine lv_iload hx hb dX3_goes_171 (lv_at hl 2 rfl) ?_
      refine g_callv (va_runV (As := [.int _]) (rest := []) ⟨hx, hb, hml, hown, hts⟩ (m_giveBack l D K ma op st zs ho ba g lx cn pe lt le wa ta th ll wt (nI mh) fl (nI L.length) fd B k0 _ hk6 hway) (cwV 1 hts gX3_goes_X3_giveBack rfl rfl rfl (by decide +kernel) ⟨(Nat.le_of_ble_eq_true rfl), (Nat.le_of_ble_eq_true rfl)⟩) (g_preV hK hP hD (ci := 3) (q0 := 0) rfl (rfl)) rfl rfl hl.1 rfl (lv_room (Nat.le_of_ble_eq_true rfl)) dX3_goes_173 ⟨Nat.zero_le _, Nat.zero_le _⟩) hD hS hA (fun wv H locs hw hP hD hS => ?_)
      obtain ⟨ba1, ew⟩ := hw
      rw [ew] at hP hD
      refine lv_aload_n hx hb dX3_goes_176 rfl (lv_at hl 3 rfl) ?_
      refine lv_dup hx hb dX3_goes_177 rfl ?_
      refine va_get (C := RX3) (T := TX3) (N := 21) (ci := 3) hx hb hts hi_X3 hown hK hP (0) (rfl) rfl 16 (by decide) (hts (.fieldLink RX3 81 "GroupSeatsModel" "failures" "I") (by decide +kernel)) (fun _ h9 => h9) rfl dX3_goes_178 ?_
      refine lv_iconst (v := 1) hx hb dX3_goes_181 (by decide) ?_
      refine lv_iadd hx hb dX3_goes_182 ?_
      refine va_put (C := RX3) (T := TX3) (N := 21) (ci := 3) (ty := .int) hx hb hts hi_X3 tyX3 tyX3_ok nmX3 hown hK hP hD hS (0) (rfl) rfl 16 (by decide) (hts (.fieldLink RX3 81 "GroupSeatsModel" "failures" "I") (by decide +kernel)) (fun _ h9 => h9) rfl (by decide +kernel) rfl rfl (Nat.le_of_ble_eq_true rfl) dX3_goes_183 (fun H locs hP hD hS => ?_)
      have hP : va_P D vwCl (mW K ma th ll (nI B) wt (nI mh) (fl + 1) (nI L.length) fd op st zs ho ba1 (freeV g (nI B) 200) lx cn pe lt le wa ta) H := hP
      have hD : va_D A (mW K ma th ll (nI B) wt (nI mh) (fl + 1) (nI L.length) fd op st zs ho ba1 (freeV g (nI B) 200) lx cn pe lt le wa ta) := hD
      refine lv_iload hx hb dX3_goes_186 (lv_at hl 1 rfl) ?_
      exact g_iret hx hb hr hlocks (Nat.le_of_ble_eq_true rfl) (Nat.le_of_ble_eq_true rfl) hK hP hD hS dX3_goes_188 (by have hw0 : w ≠ 0 := (fun q => c140 (by rw [q]; rfl)); rw [if_neg hw0, if_neg (fun h => c145 h.1)] at hGF; subst hGF; exact ⟨fun q => absurd q hfc, fun _ => ⟨rfl, ho, ba1, _, ta, fd, rfl, MS_back hMS hGV hNB⟩⟩)
    · refine lv_iload_n hx hb dX3_goes_148 rfl (lv_at hl 0 rfl) ?_
      refine lv_iload_n hx hb dX3_goes_149 rfl (lv_at hl 4 rfl) ?_
      refine lv_icmp_ge (tgt := 170) hx hb dX3_goes_150 (by decide) (fun c150 => ?_) (fun c150 => ?_)
      · refine lv_aload_n hx hb dX3_goes_170 rfl (lv_at hl 3 rfl) ?_
        refine lv_iload hx hb dX3_goes_171 (lv_at hl 2 rfl) ?_
        refine g_callv (va_runV (As := [.int _]) (rest := []) ⟨hx, hb, hml, hown, hts⟩ (m_giveBack l D K ma op st zs ho ba g lx cn pe lt le wa ta th ll wt (nI mh) fl (nI L.length) fd B k0 _ hk6 hway) (cwV 1 hts gX3_goes_X3_giveBack rfl rfl rfl (by decide +kernel) ⟨(Nat.le_of_ble_eq_true rfl), (Nat.le_of_ble_eq_true rfl)⟩) (g_preV hK hP hD (ci := 3) (q0 := 0) rfl (rfl)) rfl rfl hl.1 rfl (lv_room (Nat.le_of_ble_eq_true rfl)) dX3_goes_173 ⟨Nat.zero_le _, Nat.zero_le _⟩) hD hS hA (fun wv H locs hw hP hD hS => ?_)
        obtain ⟨ba1, ew⟩ := hw
        rw [ew] at hP hD
        refine lv_aload_n hx hb dX3_goes_176 rfl (lv_at hl 3 rfl) ?_
        refine lv_dup hx hb dX3_goes_177 rfl ?_
        refine va_get (C := RX3) (T := TX3) (N := 21) (ci := 3) hx hb hts hi_X3 hown hK hP (0) (rfl) rfl 16 (by decide) (hts (.fieldLink RX3 81 "GroupSeatsModel" "failures" "I") (by decide +kernel)) (fun _ h9 => h9) rfl dX3_goes_178 ?_
        refine lv_iconst (v := 1) hx hb dX3_goes_181 (by decide) ?_
        refine lv_iadd hx hb dX3_goes_182 ?_
        refine va_put (C := RX3) (T := TX3) (N := 21) (ci := 3) (ty := .int) hx hb hts hi_X3 tyX3 tyX3_ok nmX3 hown hK hP hD hS (0) (rfl) rfl 16 (by decide) (hts (.fieldLink RX3 81 "GroupSeatsModel" "failures" "I") (by decide +kernel)) (fun _ h9 => h9) rfl (by decide +kernel) rfl rfl (Nat.le_of_ble_eq_true rfl) dX3_goes_183 (fun H locs hP hD hS => ?_)
        have hP : va_P D vwCl (mW K ma th ll (nI B) wt (nI mh) (fl + 1) (nI L.length) fd op st zs ho ba1 (freeV g (nI B) 200) lx cn pe lt le wa ta) H := hP
        have hD : va_D A (mW K ma th ll (nI B) wt (nI mh) (fl + 1) (nI L.length) fd op st zs ho ba1 (freeV g (nI B) 200) lx cn pe lt le wa ta) := hD
        refine lv_iload hx hb dX3_goes_186 (lv_at hl 1 rfl) ?_
        exact g_iret hx hb hr hlocks (Nat.le_of_ble_eq_true rfl) (Nat.le_of_ble_eq_true rfl) hK hP hD hS dX3_goes_188 (by have hw0 : w ≠ 0 := (fun q => c140 (by rw [q]; rfl)); rw [if_neg hw0, if_neg (fun h => by have := (nI_leI (by omega) (by omega)).mp c150; omega)] at hGF; subst hGF; exact ⟨fun q => absurd q hfc, fun _ => ⟨rfl, ho, ba1, _, ta, fd, rfl, MS_back hMS hGV hNB⟩⟩)
      · refine lv_aload_n hx hb dX3_goes_153 rfl (lv_at hl 3 rfl) ?_
        refine lv_dup hx hb dX3_goes_154 rfl ?_
        refine va_get (C := RX3) (T := TX3) (N := 21) (ci := 3) hx hb hts hi_X3 hown hK hP (0) (rfl) rfl 9 (by decide) (hts (.fieldLink RX3 54 "GroupSeatsModel" "bookings" "I") (by decide +kernel)) (fun _ h9 => h9) rfl dX3_goes_155 ?_
        refine lv_iconst (v := 1) hx hb dX3_goes_158 (by decide) ?_
        refine lv_iadd hx hb dX3_goes_159 ?_
        refine va_put (C := RX3) (T := TX3) (N := 21) (ci := 3) (ty := .int) hx hb hts hi_X3 tyX3 tyX3_ok nmX3 hown hK hP hD hS (0) (rfl) rfl 9 (by decide) (hts (.fieldLink RX3 54 "GroupSeatsModel" "bookings" "I") (by decide +kernel)) (fun _ h9 => h9) rfl (by decide +kernel) rfl rfl (Nat.le_of_ble_eq_true rfl) dX3_goes_160 (fun H locs hP hD hS => ?_)
        have hP : va_P D vwCl (mW K ma th ll (nI B + 1) wt (nI mh) fl (nI L.length) fd op st zs ho ba g lx cn pe lt le wa ta) H := hP
        have hD : va_D A (mW K ma th ll (nI B + 1) wt (nI mh) fl (nI L.length) fd op st zs ho ba g lx cn pe lt le wa ta) := hD
        rw [nI_1 B] at hP hD
        refine lv_aload_n hx hb dX3_goes_163 rfl (lv_at hl 3 rfl) ?_
        refine va_get (C := RX3) (T := TX3) (N := 21) (ci := 3) hx hb hts hi_X3 hown hK hP (0) (rfl) rfl 9 (by decide) (hts (.fieldLink RX3 54 "GroupSeatsModel" "bookings" "I") (by decide +kernel)) (fun _ h9 => h9) rfl dX3_goes_164 ?_
        refine lv_iconst (v := 1) hx hb dX3_goes_167 (by decide) ?_
        refine lv_isub hx hb dX3_goes_168 ?_
        exact g_iret hx hb hr hlocks (Nat.le_of_ble_eq_true rfl) (Nat.le_of_ble_eq_true rfl) hK hP hD hS dX3_goes_169 (by have hw0 : w ≠ 0 := (fun q => c140 (by rw [q]; rfl)); rw [if_neg hw0, if_pos ⟨c145, Nat.lt_of_not_le (fun q => c150 (nI_le q (by omega)))⟩] at hGF; subst hGF; exact ⟨fun _ => ⟨nI_pred B, ho, ba, g, ta, fd, rfl, hMS⟩, fun q => absurd rfl q⟩)
set_option maxHeartbeats 4000000 in
set_option maxRecDepth 100000 in
theorem lp_goes {p : Program} {l : Launch} {e : Env} {s : State} {m : MethodId} {args : Array Value} {below : List Frame} {meth : Method} {c : Code} {A : Nat → Prop} {D : va_G} {K : gCl} {ws0 : va_W} {ma : Nat → Nat} {op st zs lx cn pe lt le wa : Nat → Int32} {th ll wt fl : Int32} {z : Nat → Nat} {sd : Nat → Int32} {ow : Nat → Nat → Int32} {B n : Nat} {mo : Int32} {L : List Nat} {GF : Int32 × (Nat → Nat → Int32) × Nat} (hz : ∀ r, r < 10 → z r ≤ 20) (hL : isL wa L) (hB : B < 100) (hn60 : n ≤ 60) (hNB : ∀ r, r < 10 → z r ≠ 0 → ∀ j, j < 20 → ow r j ≠ nI B)
    (I : gIn p s m meth c A yX3_goes wsX3_goes cX3_goes 8 (some .int) args D vwCl (gT K) ws0)  :
    ∀ (rs : List Nat) (p0 w mh : Nat) (ho ba ta g : Nat → Int32) (fd : Int32) (oc : Nat → Nat → Int32) (H : Heap) (locs : List Loc), L.drop p0 = rs → p0 ≤ 6 → w ≤ 60 → mh ≤ 100 → (∀ t, t < p0 → ∃ r, r < 10 ∧ wa t = nI r) → MS z sd op st zs g oc → GV (nI B) ow oc → goA z sd (nI B) n mo rs w p0 oc mh = GF → va_P D vwCl (mW K ma th ll (nI B) wt (nI mh) fl (nI L.length) fd op st zs ho ba g lx cn pe lt le wa ta) H → va_D A (mW K ma th ll (nI B) wt (nI mh) fl (nI L.length) fd op st zs ho ba g lx cn pe lt le wa ta) → va_S A s.heap H locs →
    ∀ (ls : Array Slot), lv_has ls 8 [(6, .int 1), (5, .int (nI p0)), (4, .int (-4)), (3, .int (nI w)), (0, .ref (ma 0)), (1, .int (nI n)), (2, .int mo)] →
    W p l e ({ frames := 3, cells := 0, slots := 0, locals := 120 } : Room) s m args below meth c H locs 0 0 (MQ below (va_Qi (mTo K ma z sd th ll wt B fl (nI L.length) op st zs lx cn pe lt le wa ow GF) (gB D vwCl (gT K) A) A) args s 0 0 A) (F0 m 12 ls []) := by
  have I0 := I
  obtain ⟨hx, hb, hr, hml, hown, hts, hlocks, hnm, hA, hK, -, -, -⟩ := I
  have hown : s.vm.findClass RX3 = some m.cls := hown
  have hi_X3 : ∀ w ∈ u_ws RX3 TX3 21, w ∈ wsX3_goes := by decide +kernel
  have hL6 := hL.1
  have hb8 : nI B ≠ -8 := fun h => by
    have h2 := congrArg Int32.toInt h
    rw [nI_toInt (by omega)] at h2
    exact absurd h2 (by rw [show (-8 : Int32).toInt = -8 from rfl]; omega)
  intro rs
  induction rs with
  | nil =>
    intro p0 w mh ho ba ta g fd oc H locs hrs hp6 hw60 hmh hway hMS hGV hGF hP hD hS ls hl
    refine lv_iload hx hb dX3_goes_12 (lv_at hl 0 rfl) ?_
    refine lv_if_eq (tgt := 139) hx hb dX3_goes_14 (by decide) (fun c14 => ?_) (fun c14 => ?_)
    · exact absurd c14 (by decide)
    · refine lv_iload hx hb dX3_goes_17 (lv_at hl 1 rfl) ?_
      refine lv_aload_n hx hb dX3_goes_19 rfl (lv_at hl 4 rfl) ?_
      refine va_get (C := RX3) (T := TX3) (N := 21) (ci := 3) hx hb hts hi_X3 hown hK hP (0) (rfl) rfl 18 (by decide) (hts (.fieldLink RX3 68 "GroupSeatsModel" "wayLong" "I") (by decide +kernel)) (fun _ h9 => h9) rfl dX3_goes_20 ?_
      refine lv_icmp_ge (tgt := 139) hx hb dX3_goes_23 (by decide) (fun c23 => ?_) (fun c23 => ?_)
      · exact m_fin hz hL hB hn60 hNB (fc := -4) (by decide) (by omega) (by omega) hway hMS hGV (by rw [← hGF]; rfl) I0 hP hD hS (lv_sub hl [3, 2, 1, 4, 5, 6] rfl)
      · exact absurd (nI_le (isL_end hrs) (by omega)) c23
  | cons r rs ih =>
    intro p0 w mh ho ba ta g fd oc H locs hrs hp6 hw60 hmh hway hMS hGV hGF hP hD hS ls hl
    obtain ⟨hp1, hp2, hp3, hp4⟩ := isL_drop hL hrs
    refine lv_iload hx hb dX3_goes_12 (lv_at hl 0 rfl) ?_
    refine lv_if_eq (tgt := 139) hx hb dX3_goes_14 (by decide) (fun c14 => ?_) (fun c14 => ?_)
    · exact absurd c14 (by decide)
    · refine lv_iload hx hb dX3_goes_17 (lv_at hl 1 rfl) ?_
      refine lv_aload_n hx hb dX3_goes_19 rfl (lv_at hl 4 rfl) ?_
      refine va_get (C := RX3) (T := TX3) (N := 21) (ci := 3) hx hb hts hi_X3 hown hK hP (0) (rfl) rfl 18 (by decide) (hts (.fieldLink RX3 68 "GroupSeatsModel" "wayLong" "I") (by decide +kernel)) (fun _ h9 => h9) rfl dX3_goes_20 ?_
      refine lv_icmp_ge (tgt := 139) hx hb dX3_goes_23 (by decide) (fun c23 => ?_) (fun c23 => ?_)
      · exact absurd c23 (nI_ge hp1 (by omega))
      · refine lv_iload_n hx hb dX3_goes_26 rfl (lv_at hl 3 rfl) ?_
        refine lv_if_le (tgt := 139) hx hb dX3_goes_27 (by decide) (fun c27 => ?_) (fun c27 => ?_)
        · have hw0 : w = 0 := Classical.not_not.mp (fun q => absurd c27 (by rw [show (0 : Int32) = nI 0 from rfl]; exact nI_ge (by omega) (by omega)))
          exact m_fin hz hL hB hn60 hNB (fc := -4) (by decide) (by omega) (by omega) hway hMS hGV (by rw [← hGF, hw0, goA_done]; rfl) I0 hP hD hS (lv_sub hl [3, 2, 1, 4, 5, 6] rfl)
        · have hw0 : w ≠ 0 := fun q => c27 (by rw [q]; decide)
          refine lv_aload_n hx hb dX3_goes_30 rfl (lv_at hl 4 rfl) ?_
          refine va_get (C := RX3) (T := TX3) (N := 21) (ci := 3) hx hb hts hi_X3 hown hK hP (0) (rfl) rfl 17 (by decide) (hts (.fieldLink RX3 44 "GroupSeatsModel" "way" "[I") (by decide +kernel)) (fun _ h9 => h9) rfl dX3_goes_31 ?_
          refine lv_iload hx hb dX3_goes_34 (lv_at hl 1 rfl) ?_
          refine va_iald hx hb hK hP (12) 0 (rfl) rfl (vp_in_nI (show p0 < 6 by omega) (by decide)) dX3_goes_36 ?_
          rw [nI_clamp (n := p0) (by omega), hp2]
          refine lv_istore (lv' := [(7, .int _), (6, .int _), (5, .int _), (4, .int _), (3, .int _), (0, .ref _), (1, .int _), (2, .int _)]) hx hb dX3_goes_37 hl (by decide) rfl (fun ls hl => ?_)
          refine lv_iload hx hb dX3_goes_39 (lv_at hl 0 rfl) ?_
          refine lv_bipush (v := 10) hx hb dX3_goes_41 (by decide) ?_
          refine lv_icmp_lt (tgt := 56) hx hb dX3_goes_43 (by decide) (fun c43 => ?_) (fun c43 => ?_)
          · have hr10 : r < 10 := (nI_ltI (b := 10) (by omega) (by decide)).mp c43
            refine lv_aload_n hx hb dX3_goes_56 rfl (lv_at hl 5 rfl) ?_
            refine va_get (C := RX3) (T := TX3) (N := 21) (ci := 3) hx hb hts hi_X3 hown hK hP (0) (rfl) rfl 1 (by decide) (hts (.fieldLink RX3 7 "GroupSeatsModel" "isOpen" "[Z") (by decide +kernel)) (fun _ h9 => h9) rfl dX3_goes_57 ?_
            refine lv_iload hx hb dX3_goes_60 (lv_at hl 0 rfl) ?_
            refine va_zald hx hb hK hP (1) 1 (rfl) rfl (vp_in_nI (show r < 10 by omega) (by decide)) dX3_goes_62 ?_
            refine lv_if_ne (tgt := 76) hx hb dX3_goes_63 (by decide) (fun c63 => ?_) (fun c63 => ?_)
            · have hzr : z r ≠ 0 := fun q => c63 (by rw [nI_clamp (n := r) (by omega), (hMS r hr10).1, if_pos q])
              have hob : obsL z (r :: rs) = 0 := by rw [obsL_cons, if_pos hr10, if_neg hzr]
              have hzs := (hMS r hr10).2 hzr
              refine lv_aload_n hx hb dX3_goes_76 rfl (lv_at hl 5 rfl) ?_
              refine va_get (C := RX3) (T := TX3) (N := 21) (ci := 3) hx hb hts hi_X3 hown hK hP (0) (rfl) rfl 4 (by decide) (hts (.fieldLink RX3 20 "GroupSeatsModel" "holds" "[I") (by decide +kernel)) (fun _ h9 => h9) rfl dX3_goes_77 ?_
              refine lv_iload hx hb dX3_goes_80 (lv_at hl 0 rfl) ?_
              refine lv_dup2_11 hx hb dX3_goes_82 rfl rfl ?_
              refine va_iald hx hb hK hP (4) 0 (rfl) rfl (vp_in_nI (show r < 10 by omega) (by decide)) dX3_goes_83 ?_
              refine lv_iconst (v := 1) hx hb dX3_goes_84 (by decide) ?_
              refine lv_iadd hx hb dX3_goes_85 ?_
              refine va_iast hx hb hK hP hD hS (4) 0 (rfl) rfl (vp_in_nI (show r < 10 by omega) (by decide)) dX3_goes_86 (fun H locs hP hD hS => ?_)
              have hP : va_P D vwCl (mW K ma th ll (nI B) wt (nI mh) fl (nI L.length) fd op st zs (upd ho (nI r).toNatClampNeg (ho (nI r).toNatClampNeg + 1)) ba g lx cn pe lt le wa ta) H := hP
              have hD : va_D A (mW K ma th ll (nI B) wt (nI mh) fl (nI L.length) fd op st zs (upd ho (nI r).toNatClampNeg (ho (nI r).toNatClampNeg + 1)) ba g lx cn pe lt le wa ta) := hD
              refine lv_aload_n hx hb dX3_goes_87 rfl (lv_at hl 5 rfl) ?_
              refine va_get (C := RX3) (T := TX3) (N := 21) (ci := 3) hx hb hts hi_X3 hown hK hP (0) (rfl) rfl 19 (by decide) (hts (.fieldLink RX3 47 "GroupSeatsModel" "taken" "[I") (by decide +kernel)) (fun _ h9 => h9) rfl dX3_goes_88 ?_
              refine lv_iload hx hb dX3_goes_91 (lv_at hl 2 rfl) ?_
              refine lv_aload_n hx hb dX3_goes_93 rfl (lv_at hl 5 rfl) ?_
              refine lv_iload hx hb dX3_goes_94 (lv_at hl 0 rfl) ?_
              refine lv_iload_n hx hb dX3_goes_96 rfl (lv_at hl 4 rfl) ?_
              refine g_calli (va_runV (As := [.int _, .int _]) (rest := [.int _, .ref _]) ⟨hx, hb, hml, hown, hts⟩ (m_takes l D K ma op st zs (upd ho (nI r).toNatClampNeg (ho (nI r).toNatClampNeg + 1)) ba g lx cn pe lt le wa ta th ll wt (nI mh) fl (nI L.length) fd B r (z r) w _ hr10 (hz r hr10) (by omega) hzs.1 (by omega) (by omega)) (cwV 2 hts gX3_goes_X3_takes rfl rfl rfl (by decide +kernel) ⟨(Nat.le_of_ble_eq_true rfl), (Nat.le_of_ble_eq_true rfl)⟩) (g_preV hK hP hD (ci := 3) (q0 := 0) rfl (rfl)) rfl rfl hl.1 rfl (lv_room (Nat.le_of_ble_eq_true rfl)) dX3_goes_97 ⟨Nat.zero_le _, Nat.zero_le _⟩) hD hS hA (fun r97 wv H locs hw hP hD hS => ?_)
              obtain ⟨se1, fd1, ew, er, e1, e2⟩ := hw
              rw [ew] at hP hD
              rw [hzs.2.1, hzs.2.2] at er e1
              rw [er]
              refine va_iast hx hb hK hP hD hS (13) 0 (rfl) rfl (vp_in_nI (show p0 < 6 by omega) (by decide)) dX3_goes_100 (fun H locs hP hD hS => ?_)
              have hP : va_P D vwCl (mW K ma th ll (nI B) wt (nI mh) fl (nI L.length) fd1 op st zs (upd ho (nI r).toNatClampNeg (ho (nI r).toNatClampNeg + 1)) ba se1 lx cn pe lt le wa (upd ta (nI p0).toNatClampNeg (nI (tkC (oc r) (z r) (sd r) w)))) H := hP
              have hD : va_D A (mW K ma th ll (nI B) wt (nI mh) fl (nI L.length) fd1 op st zs (upd ho (nI r).toNatClampNeg (ho (nI r).toNatClampNeg + 1)) ba se1 lx cn pe lt le wa (upd ta (nI p0).toNatClampNeg (nI (tkC (oc r) (z r) (sd r) w)))) := hD
              refine lv_iload_n hx hb dX3_goes_101 rfl (lv_at hl 4 rfl) ?_
              refine lv_aload_n hx hb dX3_goes_102 rfl (lv_at hl 5 rfl) ?_
              refine va_get (C := RX3) (T := TX3) (N := 21) (ci := 3) hx hb hts hi_X3 hown hK hP (0) (rfl) rfl 19 (by decide) (hts (.fieldLink RX3 47 "GroupSeatsModel" "taken" "[I") (by decide +kernel)) (fun _ h9 => h9) rfl dX3_goes_103 ?_
              refine lv_iload hx hb dX3_goes_106 (lv_at hl 2 rfl) ?_
              refine va_iald hx hb hK hP (13) 0 (rfl) rfl (vp_in_nI (show p0 < 6 by omega) (by decide)) dX3_goes_108 ?_
              refine lv_isub hx hb dX3_goes_109 ?_
              rw [show upd ta (nI p0).toNatClampNeg (nI (tkC (oc r) (z r) (sd r) w)) (nI p0).toNatClampNeg = nI (tkC (oc r) (z r) (sd r) w) from by simp [upd], pk_sub (tkC_le _ _ _ _)]
              refine lv_istore_n (lv' := [(3, .int _), (7, .int _), (6, .int _), (5, .int _), (4, .int _), (0, .ref _), (1, .int _), (2, .int _)]) hx hb dX3_goes_110 rfl hl (by decide) rfl (fun ls hl => ?_)
              refine lv_iinc (lv' := [(5, .int _), (3, .int _), (7, .int _), (6, .int _), (4, .int _), (0, .ref _), (1, .int _), (2, .int _)]) hx hb dX3_goes_111 hl (k := 3) rfl rfl (by decide) rfl (fun ls hl => ?_)
              rw [g_inc] at hl
              refine lv_aload_n hx hb dX3_goes_114 rfl (lv_at hl 5 rfl) ?_
              refine lv_iload hx hb dX3_goes_115 (lv_at hl 0 rfl) ?_
              refine lv_aload_n hx hb dX3_goes_117 rfl (lv_at hl 5 rfl) ?_
              refine va_get (C := RX3) (T := TX3) (N := 21) (ci := 3) hx hb hts hi_X3 hown hK hP (0) (rfl) rfl 15 (by decide) (hts (.fieldLink RX3 74 "GroupSeatsModel" "most" "I") (by decide +kernel)) (fun _ h9 => h9) rfl dX3_goes_118 ?_
              refine lv_icmp_le (tgt := 129) hx hb dX3_goes_121 (by decide) (fun c121 => ?_) (fun c121 => ?_)
              · refine lv_aload_n hx hb dX3_goes_129 rfl (lv_at hl 5 rfl) ?_
                refine va_get (C := RX3) (T := TX3) (N := 21) (ci := 3) hx hb hts hi_X3 hown hK hP (0) (rfl) rfl 15 (by decide) (hts (.fieldLink RX3 74 "GroupSeatsModel" "most" "I") (by decide +kernel)) (fun _ h9 => h9) rfl dX3_goes_130 ?_
                refine va_put (C := RX3) (T := TX3) (N := 21) (ci := 3) (ty := .int) hx hb hts hi_X3 tyX3 tyX3_ok nmX3 hown hK hP hD hS (0) (rfl) rfl 15 (by decide) (hts (.fieldLink RX3 74 "GroupSeatsModel" "most" "I") (by decide +kernel)) (fun _ h9 => h9) rfl (by decide +kernel) rfl rfl (Nat.le_of_ble_eq_true rfl) dX3_goes_133 (fun H locs hP hD hS => ?_)
                have hP : va_P D vwCl (mW K ma th ll (nI B) wt (nI mh) fl (nI L.length) fd1 op st zs (upd ho (nI r).toNatClampNeg (ho (nI r).toNatClampNeg + 1)) ba se1 lx cn pe lt le wa (upd ta (nI p0).toNatClampNeg (nI (tkC (oc r) (z r) (sd r) w)))) H := hP
                have hD : va_D A (mW K ma th ll (nI B) wt (nI mh) fl (nI L.length) fd1 op st zs (upd ho (nI r).toNatClampNeg (ho (nI r).toNatClampNeg + 1)) ba se1 lx cn pe lt le wa (upd ta (nI p0).toNatClampNeg (nI (tkC (oc r) (z r) (sd r) w)))) := hD
                rw [show (nI mh) = nI (max mh (p0 + 1)) from congrArg nI (by have := (nI_leI (by omega) (by omega)).mp c121; omega)] at hP hD
                refine lv_goto (tgt := 12) hx hb dX3_goes_136 (by decide) ?_
                exact ih (p0 + 1) (w - tkC (oc r) (z r) (sd r) w) (max mh (p0 + 1)) _ ba _ _ fd1 _ H locs hp3 (by omega) (by omega) (by omega) (fun t ht => by rcases Nat.lt_or_eq_of_le (Nat.le_of_lt_succ ht) with q | q; exact hway t q; exact ⟨r, hr10, by rw [q]; exact hp2⟩) (MS_tk hMS e1 e2) (GV_tk hb8 (hz r hr10) hGV) (by rw [← hGF, goA_step hw0 hob]) hP hD hS ls (lv_sub hl [3, 0, 4, 1, 5, 6, 7] rfl)
              · refine lv_iload hx hb dX3_goes_124 (lv_at hl 0 rfl) ?_
                refine lv_goto (tgt := 133) hx hb dX3_goes_126 (by decide) ?_
                refine va_put (C := RX3) (T := TX3) (N := 21) (ci := 3) (ty := .int) hx hb hts hi_X3 tyX3 tyX3_ok nmX3 hown hK hP hD hS (0) (rfl) rfl 15 (by decide) (hts (.fieldLink RX3 74 "GroupSeatsModel" "most" "I") (by decide +kernel)) (fun _ h9 => h9) rfl (by decide +kernel) rfl rfl (Nat.le_of_ble_eq_true rfl) dX3_goes_133 (fun H locs hP hD hS => ?_)
                have hP : va_P D vwCl (mW K ma th ll (nI B) wt (nI (p0 + 1)) fl (nI L.length) fd1 op st zs (upd ho (nI r).toNatClampNeg (ho (nI r).toNatClampNeg + 1)) ba se1 lx cn pe lt le wa (upd ta (nI p0).toNatClampNeg (nI (tkC (oc r) (z r) (sd r) w)))) H := hP
                have hD : va_D A (mW K ma th ll (nI B) wt (nI (p0 + 1)) fl (nI L.length) fd1 op st zs (upd ho (nI r).toNatClampNeg (ho (nI r).toNatClampNeg + 1)) ba se1 lx cn pe lt le wa (upd ta (nI p0).toNatClampNeg (nI (tkC (oc r) (z r) (sd r) w)))) := hD
                rw [show (nI (p0 + 1)) = nI (max mh (p0 + 1)) from congrArg nI (by have : mh < p0 + 1 := Nat.lt_of_not_le (fun q => c121 (nI_le q (by omega))); omega)] at hP hD
                refine lv_goto (tgt := 12) hx hb dX3_goes_136 (by decide) ?_
                exact ih (p0 + 1) (w - tkC (oc r) (z r) (sd r) w) (max mh (p0 + 1)) _ ba _ _ fd1 _ H locs hp3 (by omega) (by omega) (by omega) (fun t ht => by rcases Nat.lt_or_eq_of_le (Nat.le_of_lt_succ ht) with q | q; exact hway t q; exact ⟨r, hr10, by rw [q]; exact hp2⟩) (MS_tk hMS e1 e2) (GV_tk hb8 (hz r hr10) hGV) (by rw [← hGF, goA_step hw0 hob]) hP hD hS ls (lv_sub hl [3, 0, 4, 1, 5, 6, 7] rfl)
            · refine lv_bipush (v := -5) hx hb dX3_goes_66 (by decide) ?_
              refine lv_istore (lv' := [(4, .int _), (7, .int _), (6, .int _), (5, .int _), (3, .int _), (0, .ref _), (1, .int _), (2, .int _)]) hx hb dX3_goes_68 hl (by decide) rfl (fun ls hl => ?_)
              refine lv_iconst (v := 0) hx hb dX3_goes_70 (by decide) ?_
              refine lv_istore (lv' := [(6, .int _), (4, .int _), (7, .int _), (5, .int _), (3, .int _), (0, .ref _), (1, .int _), (2, .int _)]) hx hb dX3_goes_71 hl (by decide) rfl (fun ls hl => ?_)
              refine lv_goto (tgt := 136) hx hb dX3_goes_73 (by decide) ?_
              refine lv_goto (tgt := 12) hx hb dX3_goes_136 (by decide) ?_
              have hzr : z r = 0 := by rw [nI_clamp (n := r) (by omega), (hMS r hr10).1] at c63; exact Classical.not_not.mp (fun q => by rw [if_neg q] at c63; exact absurd c63 (by decide))
              have hob : obsL z (r :: rs) = -5 := by rw [obsL_cons, if_pos hr10, if_pos hzr]
              refine lv_iload hx hb dX3_goes_12 (lv_at hl 0 rfl) ?_
              refine lv_if_eq (tgt := 139) hx hb dX3_goes_14 (by decide) (fun c14 => ?_) (fun c14 => ?_)
              · exact m_fin hz hL hB hn60 hNB (fc := -5) (by decide) (by omega) (by omega) hway hMS hGV (by rw [← hGF, goA_stop hw0 (by rw [hob]; decide), hob, if_neg hw0]) I0 hP hD hS (lv_sub hl [4, 1, 3, 5, 6, 7] rfl)
              · exact absurd rfl c14
          · refine lv_bipush (v := -6) hx hb dX3_goes_46 (by decide) ?_
            refine lv_istore (lv' := [(4, .int _), (7, .int _), (6, .int _), (5, .int _), (3, .int _), (0, .ref _), (1, .int _), (2, .int _)]) hx hb dX3_goes_48 hl (by decide) rfl (fun ls hl => ?_)
            refine lv_iconst (v := 0) hx hb dX3_goes_50 (by decide) ?_
            refine lv_istore (lv' := [(6, .int _), (4, .int _), (7, .int _), (5, .int _), (3, .int _), (0, .ref _), (1, .int _), (2, .int _)]) hx hb dX3_goes_51 hl (by decide) rfl (fun ls hl => ?_)
            refine lv_goto (tgt := 136) hx hb dX3_goes_53 (by decide) ?_
            refine lv_goto (tgt := 12) hx hb dX3_goes_136 (by decide) ?_
            have hob : obsL z (r :: rs) = -6 := by rw [obsL_cons, if_neg (fun q => c43 (nI_lt (b := 10) q (by decide)))]
            refine lv_iload hx hb dX3_goes_12 (lv_at hl 0 rfl) ?_
            refine lv_if_eq (tgt := 139) hx hb dX3_goes_14 (by decide) (fun c14 => ?_) (fun c14 => ?_)
            · exact m_fin hz hL hB hn60 hNB (fc := -6) (by decide) (by omega) (by omega) hway hMS hGV (by rw [← hGF, goA_stop hw0 (by rw [hob]; decide), hob, if_neg hw0]) I0 hP hD hS (lv_sub hl [4, 1, 3, 5, 6, 7] rfl)
            · exact absurd rfl c14
set_option maxHeartbeats 4000000 in
set_option maxRecDepth 100000 in
/-- the model: goes -/
theorem m_goes (l : Launch) (D : va_G) (K : gCl) (ma : Nat → Nat) (op st zs ho ba se lx cn pe lt le wa ta : Nat → Int32) (th ll wt fl fd : Int32) (z : Nat → Nat) (sd : Nat → Int32) (ow : Nat → Nat → Int32) (B mh n : Nat) (mo : Int32) (L : List Nat) (sz : Nat) (hz : ∀ r, r < 10 → z r ≤ 20) (hL : isL wa L) (hB : B < 100) (hn60 : n ≤ 60) (hNB : ∀ r, r < 10 → z r ≠ 0 → ∀ j, j < 20 → ow r j ≠ nI B) (hmh : mh ≤ 100) (hMS : MS z sd op st zs se ow) : gMi l yX3_goes wsX3_goes ({ frames := 3, cells := 0, slots := 0, locals := 120 } : Room) D vwCl (gT K) [.ref (ma 0), .int (nI n), .int mo] (mW K ma th ll (nI B) wt (nI mh) fl (nI L.length) fd op st zs ho ba se lx cn pe lt le wa ta) sz (mTo K ma z sd th ll wt B fl (nI L.length) op st zs lx cn pe lt le wa ow (goA z sd (nI B) n mo L n 0 ow mh)) 0 0 := by
  refine g_of (cc := cX3_goes) (maxL := 8) (ret := (some .int)) (Qc := fun A => va_Qi (mTo K ma z sd th ll wt B fl (nI L.length) op st zs lx cn pe lt le wa ow (goA z sd (nI B) n mo L n 0 ow mh)) (gB D vwCl (gT K) A) A) (by decide) rfl (Nat.le_of_ble_eq_true rfl) ?_
  intro p e s m below meth c A ls I hl
  have I0 := I
  obtain ⟨hx, hb, hr, hml, hown, hts, hlocks, hnm, hA, hK, hP, hD, hS⟩ := I
  have hown : s.vm.findClass RX3 = some m.cls := hown
  have hl : lv_has ls 8 [(0, .ref (ma 0)), (1, .int (nI n)), (2, .int mo)] := hl
  have hi_X3 : ∀ w ∈ u_ws RX3 TX3 21, w ∈ wsX3_goes := by decide +kernel
  refine lv_iload_n hx hb dX3_goes_0 rfl (lv_at hl 1 rfl) ?_
  refine lv_istore_n (lv' := [(3, .int _), (0, .ref _), (1, .int _), (2, .int _)]) hx hb dX3_goes_1 rfl hl (by decide) rfl (fun ls hl => ?_)
  refine lv_bipush (v := -4) hx hb dX3_goes_2 (by decide) ?_
  refine lv_istore (lv' := [(4, .int _), (3, .int _), (0, .ref _), (1, .int _), (2, .int _)]) hx hb dX3_goes_4 hl (by decide) rfl (fun ls hl => ?_)
  refine lv_iconst (v := 0) hx hb dX3_goes_6 (by decide) ?_
  refine lv_istore (lv' := [(5, .int _), (4, .int _), (3, .int _), (0, .ref _), (1, .int _), (2, .int _)]) hx hb dX3_goes_7 hl (by decide) rfl (fun ls hl => ?_)
  refine lv_iconst (v := 1) hx hb dX3_goes_9 (by decide) ?_
  refine lv_istore (lv' := [(6, .int _), (5, .int _), (4, .int _), (3, .int _), (0, .ref _), (1, .int _), (2, .int _)]) hx hb dX3_goes_10 hl (by decide) rfl (fun ls hl => ?_)
  exact lp_goes hz hL hB hn60 hNB I0 L 0 n mh ho ba ta se fd ow _ _ rfl (by omega) hn60 hmh (fun t ht => by omega) hMS GV_0 rfl hP hD hS ls (lv_sub hl [0, 1, 2, 3, 4, 5, 6] rfl)
end
section
/-! the model's queue -/
def shI (f : Nat → Int32) (k i : Nat) : Nat → Int32 := fun j => if k ≤ j ∧ j < i then f (j + 1) else f j
def sh6 (f : Nat → Int32) (a b : Nat) : Nat → Int32 := fun x => if a ≤ x ∧ x < b then f (x + 6) else f x
theorem shI_k (f : Nat → Int32) (k : Nat) : shI f k k = f := by funext j; simp only [shI]; rw [if_neg (by omega)]
theorem shI_at {f : Nat → Int32} {k i j : Nat} (h : i ≤ j) : shI f k i j = f j := by simp only [shI]; rw [if_neg (by omega)]
theorem shI_up {f : Nat → Int32} {k i : Nat} (hk : k ≤ i) : upd (shI f k i) i (f (i + 1)) = shI f k (i + 1) := by
  funext j
  by_cases h : j = i
  · subst h; simp [shI, upd, hk]
  · by_cases h1 : k ≤ j ∧ j < i
    · simp only [shI, upd, if_neg h, if_pos h1]; rw [if_pos (by omega)]
    · simp only [shI, upd, if_neg h, if_neg h1]; rw [if_neg (by omega)]
theorem sh6_a (f : Nat → Int32) (a : Nat) : sh6 f a a = f := by funext j; simp only [sh6]; rw [if_neg (by omega)]
theorem sh6_at {f : Nat → Int32} {a b j : Nat} (h : b ≤ j) : sh6 f a b j = f j := by simp only [sh6]; rw [if_neg (by omega)]
theorem sh6_up {f : Nat → Int32} {a b : Nat} (hk : a ≤ b) : upd (sh6 f a b) b (f (b + 6)) = sh6 f a (b + 1) := by
  funext j
  by_cases h : j = b
  · subst h; simp [sh6, upd, hk]
  · by_cases h1 : a ≤ j ∧ j < b
    · simp only [sh6, upd, if_neg h, if_pos h1]; rw [if_pos (by omega)]
    · simp only [sh6, upd, if_neg h, if_neg h1]; rw [if_neg (by omega)]
theorem ix_6 {i t : Nat} (hi : i < 8) (ht : t < 6) : (6 * nI i + nI t).toNatClampNeg = 6 * i + t := by
  rw [show (6 : Int32) = nI 6 from rfl, pk_mul, nI_add]
  exact nI_clamp (by omega)
theorem in_6 {i t : Nat} (hi : i < 8) (ht : t < 6) : vp_in (6 * nI i + nI t) 48 := by
  rw [show (6 : Int32) = nI 6 from rfl, pk_mul, nI_add]
  exact vp_in_nI (by omega) (by decide)
theorem ix_66 {i t : Nat} (hi : i + 1 < 8) (ht : t < 6) : (6 * nI i + 6 + nI t).toNatClampNeg = 6 * i + t + 6 := by
  rw [show (6 : Int32) = nI 6 from rfl, pk_mul, nI_add, nI_add, nI_clamp (by omega)]
  omega
theorem in_66 {i t : Nat} (hi : i + 1 < 8) (ht : t < 6) : vp_in (6 * nI i + 6 + nI t) 48 := by
  rw [show (6 : Int32) = nI 6 from rfl, pk_mul, nI_add, nI_add]
  exact vp_in_nI (by omega) (by decide)
def PI (P : Pty) : Prop := P.2.length ≤ 6 ∧ (∀ r ∈ P.2, r ≤ 11) ∧ 1 ≤ P.1 ∧ P.1 ≤ 60
def MQr (pe lt le : Nat → Int32) (q : List Pty) : Prop := ∀ (i : Nat) (P : Pty), q[i]? = some P → pe i = nI P.1 ∧ le i = nI P.2.length ∧ (∀ t, t < P.2.length → lt (6 * i + t) = nI (P.2.getD t 0)) ∧ PI P
theorem MQr_erase {pe lt le : Nat → Int32} {q : List Pty} {k : Nat} (hk : k < q.length) (h : MQr pe lt le q) : MQr (shI pe k (q.length - 1)) (sh6 lt (6 * k) (6 * (q.length - 1))) (shI le k (q.length - 1)) (q.eraseIdx k) := fun i P hi => by
  have hl := (List.getElem?_eq_some_iff.mp hi).1
  rw [List.length_eraseIdx_of_lt hk] at hl
  rw [List.getElem?_eraseIdx] at hi
  split at hi
  · rename_i c
    obtain ⟨h1, h2, h3, h4⟩ := h i P hi
    refine ⟨?_, ?_, fun t ht => ?_, h4⟩
    · simp only [shI]; rw [if_neg (by omega)]; exact h1
    · simp only [shI]; rw [if_neg (by omega)]; exact h2
    · have := h4.1
      simp only [sh6]; rw [if_neg (by omega)]; exact h3 t ht
  · rename_i c
    obtain ⟨h1, h2, h3, h4⟩ := h (i + 1) P hi
    refine ⟨?_, ?_, fun t ht => ?_, h4⟩
    · simp only [shI]; rw [if_pos (by omega)]; exact h1
    · simp only [shI]; rw [if_pos (by omega)]; exact h2
    · have := h4.1
      simp only [sh6]; rw [if_pos (by omega), show 6 * i + t + 6 = 6 * (i + 1) + t by omega]; exact h3 t ht
/-- the list of a party that waits, written over the way -/
def cpW (lt : Nat → Int32) (k : Nat) (wa : Nat → Int32) (i : Nat) : Nat → Int32 := fun x => if x < i then lt (6 * k + x) else wa x
theorem cpW_0 (lt : Nat → Int32) (k : Nat) (wa : Nat → Int32) : cpW lt k wa 0 = wa := by funext x; simp [cpW]
theorem cpW_up {lt : Nat → Int32} {k : Nat} {wa : Nat → Int32} {i : Nat} : upd (cpW lt k wa i) i (lt (6 * k + i)) = cpW lt k wa (i + 1) := by
  funext x
  by_cases h : x = i
  · subst h; simp [cpW, upd]
  · by_cases h1 : x < i
    · simp [cpW, upd, h, h1, show x < i + 1 by omega]
    · simp [cpW, upd, h, h1, show ¬ x < i + 1 by omega]
theorem tryA_fullAll {z : Nat → Nat} {sd : Nat → Int32} {B : Nat} {ow : Nat → Nat → Int32} {mh : Nat} {fl : Int32} (h : ¬ B < 40) : ∀ ps : List Pty, tryA z sd ps B ow mh fl = (ps, B, ow, mh, fl)
  | [] => rfl
  | P :: ps => by rw [tryA_full h, tryA_fullAll h ps]
/-- owners of open rows: nobody, or a booking that was made -/
def OR (z : Nat → Nat) (ow : Nat → Nat → Int32) (B : Nat) : Prop := ∀ r, r < 10 → z r ≠ 0 → ∀ j, j < 20 → ow r j = -8 ∨ ∃ b, b < B ∧ ow r j = nI b
theorem nI_ne8 {B : Nat} (hB : B < 100) : nI B ≠ -8 := fun h => by
  have h2 := congrArg Int32.toInt h
  rw [nI_toInt (by omega)] at h2
  exact absurd h2 (by rw [show (-8 : Int32).toInt = -8 from rfl]; omega)
theorem OR_ne {z : Nat → Nat} {ow : Nat → Nat → Int32} {B : Nat} (h : OR z ow B) (hB : B < 100) : ∀ r, r < 10 → z r ≠ 0 → ∀ j, j < 20 → ow r j ≠ nI B := fun r hr hz j hj e => by
  rcases h r hr hz j hj with q | ⟨b, hb, q⟩
  · exact nI_ne8 hB (e.symm.trans q)
  · have := (nI_eq (by omega) (by omega)).mp (q.symm.trans e); omega
theorem OR_GV {z : Nat → Nat} {ow oc : Nat → Nat → Int32} {B : Nat} (h : OR z ow B) (hg : GV (nI B) ow oc) : OR z oc (B + 1) := fun r hr hz j hj => by
  rcases hg r j with q | ⟨q, _, _⟩
  · rw [q]
    rcases h r hr hz j hj with a | ⟨b, hb, a⟩
    · exact Or.inl a
    · exact Or.inr ⟨b, by omega, a⟩
  · exact Or.inr ⟨B, by omega, q⟩
theorem goA_GV {z : Nat → Nat} {sd : Nat → Int32} {b : Int32} {n : Nat} {mo : Int32} {ow : Nat → Nat → Int32} (hb : b ≠ -8) (hz : ∀ r, r < 10 → z r ≤ 20) : ∀ (rs : List Nat) (w p : Nat) (oc : Nat → Nat → Int32) (mh : Nat), GV b ow oc → GV b ow (goA z sd b n mo rs w p oc mh).2.1
  | [], w, p, oc, mh, h => h
  | r :: rs, w, p, oc, mh, h => by
    simp only [goA]
    split
    · exact h
    · split
      · rename_i ho
        obtain ⟨r1, rs1, e1, e2, e3⟩ := obs_ne ho
        injection e1 with e4 e5
        exact goA_GV hb hz rs _ _ _ _ (GV_tk hb (hz r (by omega)) h)
      · exact h
set_option maxHeartbeats 4000000 in
set_option maxRecDepth 100000 in
theorem lp_rem1 {p : Program} {l : Launch} {e : Env} {s : State} {m : MethodId} {args : Array Value} {below : List Frame} {meth : Method} {c : Code} {A : Nat → Prop} {D : va_G} {K : gCl} {ws0 : va_W} {rm : Room} {ma : Nat → Nat} {op st zs ho ba se lx cn pe lt le wa ta : Nat → Int32} {th ll B mh fl wl fd : Int32} {n k0 i : Nat} {post : va_W → Prop} (hn : n < 8) (hin : i < n) (hki : k0 ≤ i)
    (I : gIn p s m meth c A yX3_removed wsX3_removed cX3_removed 4 none args D vwCl (gT K) ws0) (hE : ∀ (H : Heap) (locs : List Loc), va_P D vwCl (mW K ma th ll B (nI n) mh fl wl fd op st zs ho ba se lx cn (shI pe k0 (i + 1)) (sh6 lt (6 * k0) (6 * i + 6)) (shI le k0 (i + 1)) wa ta) H → va_D A (mW K ma th ll B (nI n) mh fl wl fd op st zs ho ba se lx cn (shI pe k0 (i + 1)) (sh6 lt (6 * k0) (6 * i + 6)) (shI le k0 (i + 1)) wa ta) → va_S A s.heap H locs → ∀ (ls : Array Slot), lv_has ls 4 [(2, .int (nI i)), (0, .ref (ma 0)), (1, .int (nI k0))] → W p l e rm s m args below meth c H locs 0 0 (MQ below (va_Qv (post) (gB D vwCl (gT K) A) A) args s 0 0 A) (F0 m 87 ls [])) :
    ∀ (k : Nat) (t : Nat) (H : Heap) (locs : List Loc), t + k = 6 → va_P D vwCl (mW K ma th ll B (nI n) mh fl wl fd op st zs ho ba se lx cn (shI pe k0 (i + 1)) (sh6 lt (6 * k0) (6 * i + t)) (shI le k0 (i + 1)) wa ta) H → va_D A (mW K ma th ll B (nI n) mh fl wl fd op st zs ho ba se lx cn (shI pe k0 (i + 1)) (sh6 lt (6 * k0) (6 * i + t)) (shI le k0 (i + 1)) wa ta) → va_S A s.heap H locs →
    ∀ (ls : Array Slot), lv_has ls 4 [(3, .int (nI t)), (2, .int (nI i)), (0, .ref (ma 0)), (1, .int (nI k0))] →
    W p l e rm s m args below meth c H locs 0 0 (MQ below (va_Qv (post) (gB D vwCl (gT K) A) A) args s 0 0 A) (F0 m 50 ls []) := by
  have I0 := I
  obtain ⟨hx, hb, hr, hml, hown, hts, hlocks, hnm, hA, hK, -, -, -⟩ := I
  have hown : s.vm.findClass RX3 = some m.cls := hown
  have hi_X3 : ∀ w ∈ u_ws RX3 TX3 21, w ∈ wsX3_removed := by decide +kernel
  intro k
  induction k with
  | zero =>
    intro t H locs hi hP hD hS ls hl
    refine lv_iload_n hx hb dX3_removed_50 rfl (lv_at hl 0 rfl) ?_
    refine lv_bipush (v := 6) hx hb dX3_removed_51 (by decide) ?_
    refine lv_icmp_ge (tgt := 87) hx hb dX3_removed_53 (by decide) (fun c53 => ?_) (fun c53 => ?_)
    · have ht6 : t = 6 := by omega
      subst ht6
      exact hE H locs hP hD hS ls (lv_sub hl [1, 2, 3] rfl)
    · exact absurd (nI_le (a := 6) (by omega) (by omega)) c53
  | succ k ih =>
    intro t H locs hi hP hD hS ls hl
    refine lv_iload_n hx hb dX3_removed_50 rfl (lv_at hl 0 rfl) ?_
    refine lv_bipush (v := 6) hx hb dX3_removed_51 (by decide) ?_
    refine lv_icmp_ge (tgt := 87) hx hb dX3_removed_53 (by decide) (fun c53 => ?_) (fun c53 => ?_)
    · exact absurd c53 (nI_ge (b := 6) (by omega) (by decide))
    · refine lv_aload_n hx hb dX3_removed_56 rfl (lv_at hl 2 rfl) ?_
      refine va_get (C := RX3) (T := TX3) (N := 21) (ci := 3) hx hb hts hi_X3 hown hK hP (0) (rfl) rfl 12 (by decide) (hts (.fieldLink RX3 38 "GroupSeatsModel" "lists" "[I") (by decide +kernel)) (fun _ h9 => h9) rfl dX3_removed_57 ?_
      refine lv_bipush (v := 6) hx hb dX3_removed_60 (by decide) ?_
      refine lv_iload_n hx hb dX3_removed_62 rfl (lv_at hl 1 rfl) ?_
      refine lv_imul hx hb dX3_removed_63 ?_
      refine lv_iload_n hx hb dX3_removed_64 rfl (lv_at hl 0 rfl) ?_
      refine lv_iadd hx hb dX3_removed_65 ?_
      refine lv_aload_n hx hb dX3_removed_66 rfl (lv_at hl 2 rfl) ?_
      refine va_get (C := RX3) (T := TX3) (N := 21) (ci := 3) hx hb hts hi_X3 hown hK hP (0) (rfl) rfl 12 (by decide) (hts (.fieldLink RX3 38 "GroupSeatsModel" "lists" "[I") (by decide +kernel)) (fun _ h9 => h9) rfl dX3_removed_67 ?_
      refine lv_bipush (v := 6) hx hb dX3_removed_70 (by decide) ?_
      refine lv_iload_n hx hb dX3_removed_72 rfl (lv_at hl 1 rfl) ?_
      refine lv_imul hx hb dX3_removed_73 ?_
      refine lv_bipush (v := 6) hx hb dX3_removed_74 (by decide) ?_
      refine lv_iadd hx hb dX3_removed_76 ?_
      refine lv_iload_n hx hb dX3_removed_77 rfl (lv_at hl 0 rfl) ?_
      refine lv_iadd hx hb dX3_removed_78 ?_
      refine va_iald hx hb hK hP (10) 0 (rfl) rfl (in_66 (by omega) (by omega)) dX3_removed_79 ?_
      refine va_iast hx hb hK hP hD hS (10) 0 (rfl) rfl (in_6 (by omega) (by omega)) dX3_removed_80 (fun H locs hP hD hS => ?_)
      have hP : va_P D vwCl (mW K ma th ll B (nI n) mh fl wl fd op st zs ho ba se lx cn (shI pe k0 (i + 1)) (upd (sh6 lt (6 * k0) (6 * i + t)) (6 * nI i + nI t).toNatClampNeg (sh6 lt (6 * k0) (6 * i + t) (6 * nI i + 6 + nI t).toNatClampNeg)) (shI le k0 (i + 1)) wa ta) H := hP
      have hD : va_D A (mW K ma th ll B (nI n) mh fl wl fd op st zs ho ba se lx cn (shI pe k0 (i + 1)) (upd (sh6 lt (6 * k0) (6 * i + t)) (6 * nI i + nI t).toNatClampNeg (sh6 lt (6 * k0) (6 * i + t) (6 * nI i + 6 + nI t).toNatClampNeg)) (shI le k0 (i + 1)) wa ta) := hD
      refine lv_iinc (lv' := [(3, .int _), (2, .int _), (0, .ref _), (1, .int _)]) hx hb dX3_removed_81 hl (k := 0) rfl rfl (by decide) rfl (fun ls hl => ?_)
      refine lv_goto (tgt := 50) hx hb dX3_removed_84 (by decide) ?_
      rw [g_inc] at hl
      rw [ix_6 (by omega) (by omega), ix_66 (by omega) (by omega), sh6_at (by omega), sh6_up (by omega)] at hP hD
      exact ih (t + 1) H locs (by omega) hP hD hS ls (lv_sub hl [0, 1, 2, 3] rfl)
set_option maxHeartbeats 4000000 in
set_option maxRecDepth 100000 in
theorem lp_rem2 {p : Program} {l : Launch} {e : Env} {s : State} {m : MethodId} {args : Array Value} {below : List Frame} {meth : Method} {c : Code} {A : Nat → Prop} {D : va_G} {K : gCl} {ws0 : va_W} {rm : Room} {ma : Nat → Nat} {op st zs ho ba se lx cn pe lt le wa ta : Nat → Int32} {th ll B mh fl wl fd : Int32} {n k0 : Nat} (hn : n < 8)
    (I : gIn p s m meth c A yX3_removed wsX3_removed cX3_removed 4 none args D vwCl (gT K) ws0)  :
    ∀ (k : Nat) (i : Nat) (H : Heap) (locs : List Loc), i + k = n → k0 ≤ i → va_P D vwCl (mW K ma th ll B (nI n) mh fl wl fd op st zs ho ba se lx cn (shI pe k0 i) (sh6 lt (6 * k0) (6 * i)) (shI le k0 i) wa ta) H → va_D A (mW K ma th ll B (nI n) mh fl wl fd op st zs ho ba se lx cn (shI pe k0 i) (sh6 lt (6 * k0) (6 * i)) (shI le k0 i) wa ta) → va_S A s.heap H locs →
    ∀ (ls : Array Slot), lv_has ls 4 [(2, .int (nI i)), (0, .ref (ma 0)), (1, .int (nI k0))] →
    W p l e rm s m args below meth c H locs 0 0 (MQ below (va_Qv (fun w1 => w1 = mW K ma th ll B (nI n) mh fl wl fd op st zs ho ba se lx cn (shI pe k0 n) (sh6 lt (6 * k0) (6 * n)) (shI le k0 n) wa ta) (gB D vwCl (gT K) A) A) args s 0 0 A) (F0 m 12 ls []) := by
  have I0 := I
  obtain ⟨hx, hb, hr, hml, hown, hts, hlocks, hnm, hA, hK, -, -, -⟩ := I
  have hown : s.vm.findClass RX3 = some m.cls := hown
  have hi_X3 : ∀ w ∈ u_ws RX3 TX3 21, w ∈ wsX3_removed := by decide +kernel
  intro k
  induction k with
  | zero =>
    intro i H locs hi hki hP hD hS ls hl
    have hin : i = n := by omega
    subst hin
    refine lv_iload_n hx hb dX3_removed_12 rfl (lv_at hl 0 rfl) ?_
    refine lv_aload_n hx hb dX3_removed_13 rfl (lv_at hl 1 rfl) ?_
    refine va_get (C := RX3) (T := TX3) (N := 21) (ci := 3) hx hb hts hi_X3 hown hK hP (0) (rfl) rfl 14 (by decide) (hts (.fieldLink RX3 84 "GroupSeatsModel" "waits" "I") (by decide +kernel)) (fun _ h9 => h9) rfl dX3_removed_14 ?_
    refine lv_icmp_ge (tgt := 93) hx hb dX3_removed_17 (by decide) (fun c17 => ?_) (fun c17 => ?_)
    · exact g_vret hx hb hr hlocks (Nat.le_of_ble_eq_true rfl) (Nat.le_of_ble_eq_true rfl) hK hP hD hS dX3_removed_93 (rfl)
    · exact absurd (nI_le (by omega) (by omega)) c17
  | succ k ih =>
    intro i H locs hi hki hP hD hS ls hl
    refine lv_iload_n hx hb dX3_removed_12 rfl (lv_at hl 0 rfl) ?_
    refine lv_aload_n hx hb dX3_removed_13 rfl (lv_at hl 1 rfl) ?_
    refine va_get (C := RX3) (T := TX3) (N := 21) (ci := 3) hx hb hts hi_X3 hown hK hP (0) (rfl) rfl 14 (by decide) (hts (.fieldLink RX3 84 "GroupSeatsModel" "waits" "I") (by decide +kernel)) (fun _ h9 => h9) rfl dX3_removed_14 ?_
    refine lv_icmp_ge (tgt := 93) hx hb dX3_removed_17 (by decide) (fun c17 => ?_) (fun c17 => ?_)
    · exact absurd c17 (nI_ge (by omega) (by omega))
    · refine lv_aload_n hx hb dX3_removed_20 rfl (lv_at hl 1 rfl) ?_
      refine va_get (C := RX3) (T := TX3) (N := 21) (ci := 3) hx hb hts hi_X3 hown hK hP (0) (rfl) rfl 11 (by decide) (hts (.fieldLink RX3 35 "GroupSeatsModel" "people" "[I") (by decide +kernel)) (fun _ h9 => h9) rfl dX3_removed_21 ?_
      refine lv_iload_n hx hb dX3_removed_24 rfl (lv_at hl 0 rfl) ?_
      refine lv_aload_n hx hb dX3_removed_25 rfl (lv_at hl 1 rfl) ?_
      refine va_get (C := RX3) (T := TX3) (N := 21) (ci := 3) hx hb hts hi_X3 hown hK hP (0) (rfl) rfl 11 (by decide) (hts (.fieldLink RX3 35 "GroupSeatsModel" "people" "[I") (by decide +kernel)) (fun _ h9 => h9) rfl dX3_removed_26 ?_
      refine lv_iload_n hx hb dX3_removed_29 rfl (lv_at hl 0 rfl) ?_
      refine lv_iconst (v := 1) hx hb dX3_removed_30 (by decide) ?_
      refine lv_iadd hx hb dX3_removed_31 ?_
      rw [nI_1]
      refine va_iald hx hb hK hP (9) 0 (rfl) rfl (vp_in_nI (show i + 1 < 8 by omega) (by decide)) dX3_removed_32 ?_
      refine va_iast hx hb hK hP hD hS (9) 0 (rfl) rfl (vp_in_nI (show i < 8 by omega) (by decide)) dX3_removed_33 (fun H locs hP hD hS => ?_)
      have hP : va_P D vwCl (mW K ma th ll B (nI n) mh fl wl fd op st zs ho ba se lx cn (upd (shI pe k0 i) (nI i).toNatClampNeg (shI pe k0 i (nI (i + 1)).toNatClampNeg)) (sh6 lt (6 * k0) (6 * i)) (shI le k0 i) wa ta) H := hP
      have hD : va_D A (mW K ma th ll B (nI n) mh fl wl fd op st zs ho ba se lx cn (upd (shI pe k0 i) (nI i).toNatClampNeg (shI pe k0 i (nI (i + 1)).toNatClampNeg)) (sh6 lt (6 * k0) (6 * i)) (shI le k0 i) wa ta) := hD
      rw [nI_clamp (n := i) (by omega), nI_clamp (n := i + 1) (by omega), shI_at (j := i + 1) (by omega), shI_up (by omega)] at hP hD
      refine lv_aload_n hx hb dX3_removed_34 rfl (lv_at hl 1 rfl) ?_
      refine va_get (C := RX3) (T := TX3) (N := 21) (ci := 3) hx hb hts hi_X3 hown hK hP (0) (rfl) rfl 13 (by decide) (hts (.fieldLink RX3 41 "GroupSeatsModel" "lengths" "[I") (by decide +kernel)) (fun _ h9 => h9) rfl dX3_removed_35 ?_
      refine lv_iload_n hx hb dX3_removed_38 rfl (lv_at hl 0 rfl) ?_
      refine lv_aload_n hx hb dX3_removed_39 rfl (lv_at hl 1 rfl) ?_
      refine va_get (C := RX3) (T := TX3) (N := 21) (ci := 3) hx hb hts hi_X3 hown hK hP (0) (rfl) rfl 13 (by decide) (hts (.fieldLink RX3 41 "GroupSeatsModel" "lengths" "[I") (by decide +kernel)) (fun _ h9 => h9) rfl dX3_removed_40 ?_
      refine lv_iload_n hx hb dX3_removed_43 rfl (lv_at hl 0 rfl) ?_
      refine lv_iconst (v := 1) hx hb dX3_removed_44 (by decide) ?_
      refine lv_iadd hx hb dX3_removed_45 ?_
      rw [nI_1]
      refine va_iald hx hb hK hP (11) 0 (rfl) rfl (vp_in_nI (show i + 1 < 8 by omega) (by decide)) dX3_removed_46 ?_
      refine va_iast hx hb hK hP hD hS (11) 0 (rfl) rfl (vp_in_nI (show i < 8 by omega) (by decide)) dX3_removed_47 (fun H locs hP hD hS => ?_)
      have hP : va_P D vwCl (mW K ma th ll B (nI n) mh fl wl fd op st zs ho ba se lx cn (shI pe k0 (i + 1)) (sh6 lt (6 * k0) (6 * i)) (upd (shI le k0 i) (nI i).toNatClampNeg (shI le k0 i (nI (i + 1)).toNatClampNeg)) wa ta) H := hP
      have hD : va_D A (mW K ma th ll B (nI n) mh fl wl fd op st zs ho ba se lx cn (shI pe k0 (i + 1)) (sh6 lt (6 * k0) (6 * i)) (upd (shI le k0 i) (nI i).toNatClampNeg (shI le k0 i (nI (i + 1)).toNatClampNeg)) wa ta) := hD
      rw [nI_clamp (n := i) (by omega), nI_clamp (n := i + 1) (by omega), shI_at (j := i + 1) (by omega), shI_up (by omega)] at hP hD
      refine lv_iconst (v := 0) hx hb dX3_removed_48 (by decide) ?_
      refine lv_istore_n (lv' := [(3, .int _), (2, .int _), (0, .ref _), (1, .int _)]) hx hb dX3_removed_49 rfl hl (by decide) rfl (fun ls hl => ?_)
      refine lp_rem1 hn (i := i) (by omega) (by omega) I0 ?_ 6 0 _ _ (by omega) hP hD hS ls (lv_sub hl [0, 1, 2, 3] rfl)
      intro H locs hP hD hS ls hl
      rw [show 6 * i + 6 = 6 * (i + 1) by omega] at hP hD
      refine lv_iinc (lv' := [(2, .int _), (0, .ref _), (1, .int _)]) hx hb dX3_removed_87 hl (k := 0) rfl rfl (by decide) rfl (fun ls hl => ?_)
      refine lv_goto (tgt := 12) hx hb dX3_removed_90 (by decide) ?_
      rw [g_inc] at hl
      exact ih (i + 1) H locs (by omega) (by omega) hP hD hS ls (lv_sub hl [0, 1, 2] rfl)
set_option maxHeartbeats 4000000 in
set_option maxRecDepth 100000 in
/-- the model: removed -/
theorem m_removed (l : Launch) (D : va_G) (K : gCl) (ma : Nat → Nat) (op st zs ho ba se lx cn pe lt le wa ta : Nat → Int32) (th ll B mh fl wl fd : Int32) (wt k0 : Nat) (sz : Nat) (hwt : wt ≤ 8) (hk0 : k0 < wt) : gMv l yX3_removed wsX3_removed ({ frames := 0, cells := 0, slots := 0, locals := 0 } : Room) D vwCl (gT K) [.ref (ma 0), .int (nI k0)] (mW K ma th ll B (nI wt) mh fl wl fd op st zs ho ba se lx cn pe lt le wa ta) sz (fun w1 => w1 = mW K ma th ll B (nI (wt - 1)) mh fl wl fd op st zs ho ba se lx cn (shI pe k0 (wt - 1)) (sh6 lt (6 * k0) (6 * (wt - 1))) (shI le k0 (wt - 1)) wa ta) 0 0 := by
  refine g_of (cc := cX3_removed) (maxL := 4) (ret := none) (Qc := fun A => va_Qv (fun w1 => w1 = mW K ma th ll B (nI (wt - 1)) mh fl wl fd op st zs ho ba se lx cn (shI pe k0 (wt - 1)) (sh6 lt (6 * k0) (6 * (wt - 1))) (shI le k0 (wt - 1)) wa ta) (gB D vwCl (gT K) A) A) (by decide) rfl (Nat.le_of_ble_eq_true rfl) ?_
  intro p e s m below meth c A ls I hl
  have I0 := I
  obtain ⟨hx, hb, hr, hml, hown, hts, hlocks, hnm, hA, hK, hP, hD, hS⟩ := I
  have hown : s.vm.findClass RX3 = some m.cls := hown
  have hl : lv_has ls 4 [(0, .ref (ma 0)), (1, .int (nI k0))] := hl
  have hi_X3 : ∀ w ∈ u_ws RX3 TX3 21, w ∈ wsX3_removed := by decide +kernel
  refine lv_aload_n hx hb dX3_removed_0 rfl (lv_at hl 0 rfl) ?_
  refine lv_dup hx hb dX3_removed_1 rfl ?_
  refine va_get (C := RX3) (T := TX3) (N := 21) (ci := 3) hx hb hts hi_X3 hown hK hP (0) (rfl) rfl 14 (by decide) (hts (.fieldLink RX3 84 "GroupSeatsModel" "waits" "I") (by decide +kernel)) (fun _ h9 => h9) rfl dX3_removed_2 ?_
  refine lv_iconst (v := 1) hx hb dX3_removed_5 (by decide) ?_
  refine lv_isub hx hb dX3_removed_6 ?_
  refine va_put (C := RX3) (T := TX3) (N := 21) (ci := 3) (ty := .int) hx hb hts hi_X3 tyX3 tyX3_ok nmX3 hown hK hP hD hS (0) (rfl) rfl 14 (by decide) (hts (.fieldLink RX3 84 "GroupSeatsModel" "waits" "I") (by decide +kernel)) (fun _ h9 => h9) rfl (by decide +kernel) rfl rfl (Nat.le_of_ble_eq_true rfl) dX3_removed_7 (fun H locs hP hD hS => ?_)
  have hP : va_P D vwCl (mW K ma th ll B (nI wt - 1) mh fl wl fd op st zs ho ba se lx cn pe lt le wa ta) H := hP
  have hD : va_D A (mW K ma th ll B (nI wt - 1) mh fl wl fd op st zs ho ba se lx cn pe lt le wa ta) := hD
  rw [show nI wt - 1 = nI (wt - 1) from by have := nI_pred (wt - 1); rw [show wt - 1 + 1 = wt by omega] at this; exact this] at hP hD
  refine lv_iload_n hx hb dX3_removed_10 rfl (lv_at hl 1 rfl) ?_
  refine lv_istore_n (lv' := [(2, .int _), (0, .ref _), (1, .int _)]) hx hb dX3_removed_11 rfl hl (by decide) rfl (fun ls hl => ?_)
  exact lp_rem2 (n := wt - 1) (by omega) I0 (wt - 1 - k0) k0 _ _ (by omega) (by omega) (by rw [shI_k, shI_k, sh6_a]; exact hP) (by rw [shI_k, shI_k, sh6_a]; exact hD) hS ls (lv_sub hl [0, 1, 2] rfl)
set_option maxHeartbeats 4000000 in
set_option maxRecDepth 100000 in
theorem lp_tr1 {p : Program} {l : Launch} {e : Env} {s : State} {m : MethodId} {args : Array Value} {below : List Frame} {meth : Method} {c : Code} {A : Nat → Prop} {D : va_G} {K : gCl} {ws0 : va_W} {ma : Nat → Nat} {op st zs ho ba se lx cn pe lt le wa ta : Nat → Int32} {th ll B wt mh fl fd dn : Int32} {n k0 : Nat} {post : Int32 → va_W → Prop} (hn : n ≤ 6) (hk0 : k0 < 8)
    (I : gIn p s m meth c A yX3_tried wsX3_tried cX3_tried 4 (some .int) args D vwCl (gT K) ws0) (hE : ∀ (H : Heap) (locs : List Loc), va_P D vwCl (mW K ma th ll B wt mh fl (nI n) fd op st zs ho ba se lx cn pe lt le (cpW lt k0 wa n) ta) H → va_D A (mW K ma th ll B wt mh fl (nI n) fd op st zs ho ba se lx cn pe lt le (cpW lt k0 wa n) ta) → va_S A s.heap H locs → ∀ (ls : Array Slot), lv_has ls 4 [(2, .int (nI k0)), (1, .int dn), (0, .ref (ma 0))] → W p l e ({ frames := 5, cells := 0, slots := 0, locals := 200 } : Room) s m args below meth c H locs 0 0 (MQ below (va_Qi (post) (gB D vwCl (gT K) A) A) args s 0 0 A) (F0 m 64 ls [])) :
    ∀ (k : Nat) (i : Nat) (H : Heap) (locs : List Loc), i + k = n → va_P D vwCl (mW K ma th ll B wt mh fl (nI n) fd op st zs ho ba se lx cn pe lt le (cpW lt k0 wa i) ta) H → va_D A (mW K ma th ll B wt mh fl (nI n) fd op st zs ho ba se lx cn pe lt le (cpW lt k0 wa i) ta) → va_S A s.heap H locs →
    ∀ (ls : Array Slot), lv_has ls 4 [(3, .int (nI i)), (2, .int (nI k0)), (1, .int dn), (0, .ref (ma 0))] →
    W p l e ({ frames := 5, cells := 0, slots := 0, locals := 200 } : Room) s m args below meth c H locs 0 0 (MQ below (va_Qi (post) (gB D vwCl (gT K) A) A) args s 0 0 A) (F0 m 33 ls []) := by
  have I0 := I
  obtain ⟨hx, hb, hr, hml, hown, hts, hlocks, hnm, hA, hK, -, -, -⟩ := I
  have hown : s.vm.findClass RX3 = some m.cls := hown
  have hi_X3 : ∀ w ∈ u_ws RX3 TX3 21, w ∈ wsX3_tried := by decide +kernel
  intro k
  induction k with
  | zero =>
    intro i H locs hi hP hD hS ls hl
    refine lv_iload_n hx hb dX3_tried_33 rfl (lv_at hl 0 rfl) ?_
    refine lv_aload_n hx hb dX3_tried_34 rfl (lv_at hl 3 rfl) ?_
    refine va_get (C := RX3) (T := TX3) (N := 21) (ci := 3) hx hb hts hi_X3 hown hK hP (0) (rfl) rfl 18 (by decide) (hts (.fieldLink RX3 68 "GroupSeatsModel" "wayLong" "I") (by decide +kernel)) (fun _ h9 => h9) rfl dX3_tried_35 ?_
    refine lv_icmp_ge (tgt := 64) hx hb dX3_tried_38 (by decide) (fun c38 => ?_) (fun c38 => ?_)
    · have hin : i = n := by omega
      subst hin
      exact hE H locs hP hD hS ls (lv_sub hl [1, 2, 3] rfl)
    · exact absurd (nI_le (by omega) (by omega)) c38
  | succ k ih =>
    intro i H locs hi hP hD hS ls hl
    refine lv_iload_n hx hb dX3_tried_33 rfl (lv_at hl 0 rfl) ?_
    refine lv_aload_n hx hb dX3_tried_34 rfl (lv_at hl 3 rfl) ?_
    refine va_get (C := RX3) (T := TX3) (N := 21) (ci := 3) hx hb hts hi_X3 hown hK hP (0) (rfl) rfl 18 (by decide) (hts (.fieldLink RX3 68 "GroupSeatsModel" "wayLong" "I") (by decide +kernel)) (fun _ h9 => h9) rfl dX3_tried_35 ?_
    refine lv_icmp_ge (tgt := 64) hx hb dX3_tried_38 (by decide) (fun c38 => ?_) (fun c38 => ?_)
    · exact absurd c38 (nI_ge (by omega) (by omega))
    · refine lv_aload_n hx hb dX3_tried_41 rfl (lv_at hl 3 rfl) ?_
      refine va_get (C := RX3) (T := TX3) (N := 21) (ci := 3) hx hb hts hi_X3 hown hK hP (0) (rfl) rfl 17 (by decide) (hts (.fieldLink RX3 44 "GroupSeatsModel" "way" "[I") (by decide +kernel)) (fun _ h9 => h9) rfl dX3_tried_42 ?_
      refine lv_iload_n hx hb dX3_tried_45 rfl (lv_at hl 0 rfl) ?_
      refine lv_aload_n hx hb dX3_tried_46 rfl (lv_at hl 3 rfl) ?_
      refine va_get (C := RX3) (T := TX3) (N := 21) (ci := 3) hx hb hts hi_X3 hown hK hP (0) (rfl) rfl 12 (by decide) (hts (.fieldLink RX3 38 "GroupSeatsModel" "lists" "[I") (by decide +kernel)) (fun _ h9 => h9) rfl dX3_tried_47 ?_
      refine lv_bipush (v := 6) hx hb dX3_tried_50 (by decide) ?_
      refine lv_iload_n hx hb dX3_tried_52 rfl (lv_at hl 1 rfl) ?_
      refine lv_imul hx hb dX3_tried_53 ?_
      refine lv_iload_n hx hb dX3_tried_54 rfl (lv_at hl 0 rfl) ?_
      refine lv_iadd hx hb dX3_tried_55 ?_
      refine va_iald hx hb hK hP (10) 0 (rfl) rfl (in_6 (by omega) (by omega)) dX3_tried_56 ?_
      refine va_iast hx hb hK hP hD hS (12) 0 (rfl) rfl (vp_in_nI (show i < 6 by omega) (by decide)) dX3_tried_57 (fun H locs hP hD hS => ?_)
      have hP : va_P D vwCl (mW K ma th ll B wt mh fl (nI n) fd op st zs ho ba se lx cn pe lt le (upd (cpW lt k0 wa i) (nI i).toNatClampNeg (lt (6 * nI k0 + nI i).toNatClampNeg)) ta) H := hP
      have hD : va_D A (mW K ma th ll B wt mh fl (nI n) fd op st zs ho ba se lx cn pe lt le (upd (cpW lt k0 wa i) (nI i).toNatClampNeg (lt (6 * nI k0 + nI i).toNatClampNeg)) ta) := hD
      refine lv_iinc (lv' := [(3, .int _), (2, .int _), (1, .int _), (0, .ref _)]) hx hb dX3_tried_58 hl (k := 0) rfl rfl (by decide) rfl (fun ls hl => ?_)
      refine lv_goto (tgt := 33) hx hb dX3_tried_61 (by decide) ?_
      rw [g_inc] at hl
      rw [nI_clamp (n := i) (by omega), ix_6 (by omega) (by omega), cpW_up] at hP hD
      exact ih (i + 1) H locs (by omega) hP hD hS ls (lv_sub hl [0, 1, 2, 3] rfl)
def mRo (K : gCl) (ma : Nat → Nat) (z : Nat → Nat) (sd : Nat → Int32) (th ll : Int32) (op st zs lx cn : Nat → Int32) (N0 : Nat) (F : List Pty × Nat × (Nat → Nat → Int32) × Nat × Int32) : Int32 → va_W → Prop := fun r1 w1 => r1 = nI (N0 - F.1.length) ∧ ∃ (ho1 ba1 se1 ta1 wa1 pe1 lt1 le1 : Nat → Int32) (wl1 fd1 : Int32), w1 = mW K ma th ll (nI F.2.1) (nI F.1.length) (nI F.2.2.2.1) F.2.2.2.2 wl1 fd1 op st zs ho1 ba1 se1 lx cn pe1 lt1 le1 wa1 ta1 ∧ MS z sd op st zs se1 F.2.2.1 ∧ MQr pe1 lt1 le1 F.1
set_option maxHeartbeats 4000000 in
set_option maxRecDepth 100000 in
theorem lp_tr2 {p : Program} {l : Launch} {e : Env} {s : State} {m : MethodId} {args : Array Value} {below : List Frame} {meth : Method} {c : Code} {A : Nat → Prop} {D : va_G} {K : gCl} {ws0 : va_W} {ma : Nat → Nat} {op st zs lx cn : Nat → Int32} {th ll : Int32} {z : Nat → Nat} {sd : Nat → Int32} {N0 : Nat} {F : List Pty × Nat × (Nat → Nat → Int32) × Nat × Int32} (hz : ∀ r, r < 10 → z r ≤ 20) (hN8 : N0 ≤ 8)
    (I : gIn p s m meth c A yX3_tried wsX3_tried cX3_tried 4 (some .int) args D vwCl (gT K) ws0)  :
    ∀ (ps : List Pty) (k0 dn B mh wt : Nat) (St : List Pty) (ho ba se ta wa pe lt le : Nat → Int32) (wl fd : Int32) (ow : Nat → Nat → Int32) (fl : Int32) (H : Heap) (locs : List Loc), St.length = k0 → dn + wt = N0 → (St ++ ps).length = wt → wt ≤ 8 → B ≤ 40 → mh ≤ 6 → OR z ow B → MS z sd op st zs se ow → MQr pe lt le (St ++ ps) → St ++ (tryA z sd ps B ow mh fl).1 = F.1 → (tryA z sd ps B ow mh fl).2 = F.2 → va_P D vwCl (mW K ma th ll (nI B) (nI wt) (nI mh) fl wl fd op st zs ho ba se lx cn pe lt le wa ta) H → va_D A (mW K ma th ll (nI B) (nI wt) (nI mh) fl wl fd op st zs ho ba se lx cn pe lt le wa ta) → va_S A s.heap H locs →
    ∀ (ls : Array Slot), lv_has ls 4 [(2, .int (nI k0)), (1, .int (nI dn)), (0, .ref (ma 0))] →
    W p l e ({ frames := 5, cells := 0, slots := 0, locals := 200 } : Room) s m args below meth c H locs 0 0 (MQ below (va_Qi (mRo K ma z sd th ll op st zs lx cn N0 F) (gB D vwCl (gT K) A) A) args s 0 0 A) (F0 m 4 ls []) := by
  have I0 := I
  obtain ⟨hx, hb, hr, hml, hown, hts, hlocks, hnm, hA, hK, -, -, -⟩ := I
  have hown : s.vm.findClass RX3 = some m.cls := hown
  have hi_X3 : ∀ w ∈ u_ws RX3 TX3 21, w ∈ wsX3_tried := by decide +kernel
  intro ps
  induction ps with
  | nil =>
    intro k0 dn B mh wt St ho ba se ta wa pe lt le wl fd ow fl H locs hSl hdn hlen hwt8 hB40 hmh6 hOR hMS hQ hF1 hF2 hP hD hS ls hl
    have hlen0 : St.length = wt := by rw [List.append_nil] at hlen; exact hlen
    refine lv_iload_n hx hb dX3_tried_4 rfl (lv_at hl 0 rfl) ?_
    refine lv_aload_n hx hb dX3_tried_5 rfl (lv_at hl 2 rfl) ?_
    refine va_get (C := RX3) (T := TX3) (N := 21) (ci := 3) hx hb hts hi_X3 hown hK hP (0) (rfl) rfl 14 (by decide) (hts (.fieldLink RX3 84 "GroupSeatsModel" "waits" "I") (by decide +kernel)) (fun _ h9 => h9) rfl dX3_tried_6 ?_
    refine lv_icmp_ge (tgt := 95) hx hb dX3_tried_9 (by decide) (fun c9 => ?_) (fun c9 => ?_)
    · refine lv_iload_n hx hb dX3_tried_95 rfl (lv_at hl 1 rfl) ?_
      exact g_iret hx hb hr hlocks (Nat.le_of_ble_eq_true rfl) (Nat.le_of_ble_eq_true rfl) hK hP hD hS dX3_tried_96 (by simp only [tryA] at hF1 hF2; exact ⟨by rw [← hF1]; congr 1; omega, ho, ba, se, ta, wa, pe, lt, le, wl, fd, by rw [← hF1, ← hF2, hlen], by rw [← hF2]; exact hMS, by rw [← hF1]; exact hQ⟩)
    · exact absurd (nI_le (by rw [List.append_nil] at hlen; omega) (by omega)) c9
  | cons P ps ih =>
    intro k0 dn B mh wt St ho ba se ta wa pe lt le wl fd ow fl H locs hSl hdn hlen hwt8 hB40 hmh6 hOR hMS hQ hF1 hF2 hP hD hS ls hl
    have hlenc : St.length + (ps.length + 1) = wt := by rw [List.length_append, List.length_cons] at hlen; exact hlen
    have hPa := hQ k0 P (by rw [List.getElem?_append_right (by omega), show k0 - St.length = 0 by omega]; rfl)
    have hPi := hPa.2.2.2
    have hP1 := hPi.2.2.1
    have hP2 := hPi.2.2.2
    have hLP : isL (cpW lt k0 wa P.2.length) P.2 := ⟨hPi.1, fun t ht => by simp only [cpW]; rw [if_pos ht]; exact hPa.2.2.1 t ht, hPi.2.1⟩
    refine lv_iload_n hx hb dX3_tried_4 rfl (lv_at hl 0 rfl) ?_
    refine lv_aload_n hx hb dX3_tried_5 rfl (lv_at hl 2 rfl) ?_
    refine va_get (C := RX3) (T := TX3) (N := 21) (ci := 3) hx hb hts hi_X3 hown hK hP (0) (rfl) rfl 14 (by decide) (hts (.fieldLink RX3 84 "GroupSeatsModel" "waits" "I") (by decide +kernel)) (fun _ h9 => h9) rfl dX3_tried_6 ?_
    refine lv_icmp_ge (tgt := 95) hx hb dX3_tried_9 (by decide) (fun c9 => ?_) (fun c9 => ?_)
    · exact absurd c9 (nI_ge (by omega) (by omega))
    · refine lv_aload_n hx hb dX3_tried_12 rfl (lv_at hl 2 rfl) ?_
      refine va_get (C := RX3) (T := TX3) (N := 21) (ci := 3) hx hb hts hi_X3 hown hK hP (0) (rfl) rfl 9 (by decide) (hts (.fieldLink RX3 54 "GroupSeatsModel" "bookings" "I") (by decide +kernel)) (fun _ h9 => h9) rfl dX3_tried_13 ?_
      refine lv_bipush (v := 40) hx hb dX3_tried_16 (by decide) ?_
      refine lv_icmp_ge (tgt := 95) hx hb dX3_tried_18 (by decide) (fun c18 => ?_) (fun c18 => ?_)
      · refine lv_iload_n hx hb dX3_tried_95 rfl (lv_at hl 1 rfl) ?_
        exact g_iret hx hb hr hlocks (Nat.le_of_ble_eq_true rfl) (Nat.le_of_ble_eq_true rfl) hK hP hD hS dX3_tried_96 (by rw [tryA_fullAll (fun q => absurd c18 (nI_ge (b := 40) q (by decide)))] at hF1 hF2; simp only at hF1 hF2; exact ⟨by rw [← hF1]; congr 1; omega, ho, ba, se, ta, wa, pe, lt, le, wl, fd, by rw [← hF1, ← hF2, hlen], by rw [← hF2]; exact hMS, by rw [← hF1]; exact hQ⟩)
      · have hBl : B < 40 := Nat.lt_of_not_le (fun q => c18 (nI_le (a := 40) q (by omega)))
        refine lv_aload_n hx hb dX3_tried_21 rfl (lv_at hl 2 rfl) ?_
        refine lv_aload_n hx hb dX3_tried_22 rfl (lv_at hl 2 rfl) ?_
        refine va_get (C := RX3) (T := TX3) (N := 21) (ci := 3) hx hb hts hi_X3 hown hK hP (0) (rfl) rfl 13 (by decide) (hts (.fieldLink RX3 41 "GroupSeatsModel" "lengths" "[I") (by decide +kernel)) (fun _ h9 => h9) rfl dX3_tried_23 ?_
        refine lv_iload_n hx hb dX3_tried_26 rfl (lv_at hl 0 rfl) ?_
        refine va_iald hx hb hK hP (11) 0 (rfl) rfl (vp_in_nI (show k0 < 8 by omega) (by decide)) dX3_tried_27 ?_
        refine va_put (C := RX3) (T := TX3) (N := 21) (ci := 3) (ty := .int) hx hb hts hi_X3 tyX3 tyX3_ok nmX3 hown hK hP hD hS (0) (rfl) rfl 18 (by decide) (hts (.fieldLink RX3 68 "GroupSeatsModel" "wayLong" "I") (by decide +kernel)) (fun _ h9 => h9) rfl (by decide +kernel) rfl rfl (Nat.le_of_ble_eq_true rfl) dX3_tried_28 (fun H locs hP hD hS => ?_)
        have hP : va_P D vwCl (mW K ma th ll (nI B) (nI wt) (nI mh) fl (le (nI k0).toNatClampNeg) fd op st zs ho ba se lx cn pe lt le wa ta) H := hP
        have hD : va_D A (mW K ma th ll (nI B) (nI wt) (nI mh) fl (le (nI k0).toNatClampNeg) fd op st zs ho ba se lx cn pe lt le wa ta) := hD
        rw [nI_clamp (n := k0) (by omega), hPa.2.1] at hP hD
        refine lv_iconst (v := 0) hx hb dX3_tried_31 (by decide) ?_
        refine lv_istore_n (lv' := [(3, .int _), (2, .int _), (1, .int _), (0, .ref _)]) hx hb dX3_tried_32 rfl hl (by decide) rfl (fun ls hl => ?_)
        refine lp_tr1 (n := P.2.length) (k0 := k0) hPi.1 (by omega) I0 ?_ P.2.length 0 _ _ (by omega) (by rw [cpW_0]; exact hP) (by rw [cpW_0]; exact hD) hS ls (lv_sub hl [0, 1, 2, 3] rfl)
        intro H locs hP hD hS ls hl
        refine lv_aload_n hx hb dX3_tried_64 rfl (lv_at hl 2 rfl) ?_
        refine lv_aload_n hx hb dX3_tried_65 rfl (lv_at hl 2 rfl) ?_
        refine va_get (C := RX3) (T := TX3) (N := 21) (ci := 3) hx hb hts hi_X3 hown hK hP (0) (rfl) rfl 11 (by decide) (hts (.fieldLink RX3 35 "GroupSeatsModel" "people" "[I") (by decide +kernel)) (fun _ h9 => h9) rfl dX3_tried_66 ?_
        refine lv_iload_n hx hb dX3_tried_69 rfl (lv_at hl 0 rfl) ?_
        refine va_iald hx hb hK hP (9) 0 (rfl) rfl (vp_in_nI (show k0 < 8 by omega) (by decide)) dX3_tried_70 ?_
        refine lv_iconst (v := 2) hx hb dX3_tried_71 (by decide) ?_
        rw [nI_clamp (n := k0) (by omega), hPa.1]
        refine g_calli (va_runV (As := [.int _, .int _]) (rest := []) ⟨hx, hb, hml, hown, hts⟩ (m_goes l D K ma op st zs ho ba se lx cn pe lt le (cpW lt k0 wa P.2.length) ta th ll (nI wt) fl fd z sd ow B mh P.1 2 P.2 _ hz hLP (by omega) (by omega) (OR_ne hOR (by omega)) (by omega) hMS) (cwV 2 hts gX3_tried_X3_goes rfl rfl rfl (by decide +kernel) ⟨(Nat.le_of_ble_eq_true rfl), (Nat.le_of_ble_eq_true rfl)⟩) (g_preV hK hP hD (ci := 3) (q0 := 0) rfl (rfl)) rfl rfl hl.1 rfl (lv_room (Nat.le_of_ble_eq_true rfl)) dX3_tried_72 ⟨Nat.zero_le _, Nat.zero_le _⟩) hD hS hA (fun r72 wv H locs hw hP hD hS => ?_)
        have hGm := goA_mh (z := z) (sd := sd) (b := nI B) (n := P.1) (mo := 2) P.2 P.1 0 ow mh hmh6 (by have := hPi.1; omega)
        have hGV := goA_GV (sd := sd) (n := P.1) (mo := 2) (nI_ne8 (B := B) (by omega)) hz P.2 P.1 0 ow mh GV_0
        by_cases hG : (goA z sd (nI B) P.1 2 P.2 P.1 0 ow mh).1 = 0
        · obtain ⟨er, ho1, ba1, se1, ta1, fd1, ew, hMS1⟩ := hw.1 hG
          rw [ew] at hP hD
          rw [er]
          refine lv_if_lt (tgt := 89) hx hb dX3_tried_75 (by decide) (fun c75 => ?_) (fun c75 => ?_)
          · exact absurd c75 (nI_pos (by omega))
          · refine lv_aload_n hx hb dX3_tried_78 rfl (lv_at hl 2 rfl) ?_
            refine lv_iload_n hx hb dX3_tried_79 rfl (lv_at hl 0 rfl) ?_
            refine g_callv (va_runV (As := [.int _]) (rest := []) ⟨hx, hb, hml, hown, hts⟩ (m_removed l D K ma op st zs ho1 ba1 se1 lx cn pe lt le (cpW lt k0 wa P.2.length) ta1 th ll (nI (B + 1)) (nI (goA z sd (nI B) P.1 2 P.2 P.1 0 ow mh).2.2) fl (nI P.2.length) fd1 wt k0 _ hwt8 (by omega)) (cwV 1 hts gX3_tried_X3_removed rfl rfl rfl (by decide +kernel) ⟨(Nat.le_of_ble_eq_true rfl), (Nat.le_of_ble_eq_true rfl)⟩) (g_preV hK hP hD (ci := 3) (q0 := 0) rfl (rfl)) rfl rfl hl.1 rfl (lv_room (Nat.le_of_ble_eq_true rfl)) dX3_tried_80 ⟨Nat.zero_le _, Nat.zero_le _⟩) hD hS hA (fun wv H locs hw hP hD hS => ?_)
            rw [hw] at hP hD
            refine lv_iinc (lv' := [(1, .int _), (2, .int _), (0, .ref _)]) hx hb dX3_tried_83 hl (k := 1) rfl rfl (by decide) rfl (fun ls hl => ?_)
            refine lv_goto (tgt := 4) hx hb dX3_tried_86 (by decide) ?_
            rw [g_inc] at hl
            rw [tryA_got (by omega) hG] at hF1 hF2
            have hQ2 := MQr_erase (k := k0) (by omega) hQ
            rw [List.eraseIdx_append_of_length_le (by omega), show k0 - St.length = 0 by omega, List.eraseIdx_cons_zero, hlen] at hQ2
            have hlen2 : (St ++ ps).length = wt - 1 := by rw [List.length_append] at hlen ⊢; rw [List.length_cons] at hlen; omega
            exact ih k0 (dn + 1) (B + 1) (goA z sd (nI B) P.1 2 P.2 P.1 0 ow mh).2.2 (wt - 1) St _ _ _ _ _ _ _ _ _ _ _ fl H locs hSl (by omega) hlen2 (by omega) (by omega) hGm (OR_GV hOR hGV) hMS1 hQ2 hF1 hF2 hP hD hS ls (lv_sub hl [1, 0, 2] rfl)
        · obtain ⟨er, ho1, ba1, se1, ta1, fd1, ew, hMS1⟩ := hw.2 hG
          rw [ew] at hP hD
          rw [er]
          refine lv_if_lt (tgt := 89) hx hb dX3_tried_75 (by decide) (fun c75 => ?_) (fun c75 => ?_)
          · refine lv_iinc (lv' := [(2, .int _), (1, .int _), (0, .ref _)]) hx hb dX3_tried_89 hl (k := 0) rfl rfl (by decide) rfl (fun ls hl => ?_)
            refine lv_goto (tgt := 4) hx hb dX3_tried_92 (by decide) ?_
            rw [g_inc] at hl
            rw [tryA_not (by omega) hG] at hF1 hF2
            have hap : St ++ P :: ps = (St ++ [P]) ++ ps := by simp
            rw [hap] at hQ hlen
            exact ih (k0 + 1) dn B (goA z sd (nI B) P.1 2 P.2 P.1 0 ow mh).2.2 wt (St ++ [P]) _ _ _ _ _ _ _ _ _ _ _ (fl + 1) H locs (by simp; omega) (by omega) hlen (by omega) (by omega) hGm hOR hMS1 hQ (by rw [← hF1]; simp) hF2 hP hD hS ls (lv_sub hl [0, 1, 2] rfl)
          · exact absurd (by rcases goA_neg (z := z) (sd := sd) (b := nI B) (n := P.1) (mo := 2) P.2 P.1 0 ow mh with q | q | q | q <;> first | exact absurd q hG | (rw [q]; decide)) c75
set_option maxHeartbeats 4000000 in
set_option maxRecDepth 100000 in
/-- the model: tried -/
theorem m_tried (l : Launch) (D : va_G) (K : gCl) (ma : Nat → Nat) (op st zs ho ba se lx cn pe lt le wa ta : Nat → Int32) (th ll fl wl fd : Int32) (z : Nat → Nat) (sd : Nat → Int32) (ow : Nat → Nat → Int32) (B mh : Nat) (q : List Pty) (sz : Nat) (hz : ∀ r, r < 10 → z r ≤ 20) (hq8 : q.length ≤ 8) (hB40 : B ≤ 40) (hmh6 : mh ≤ 6) (hOR : OR z ow B) (hMS : MS z sd op st zs se ow) (hQ : MQr pe lt le q) : gMi l yX3_tried wsX3_tried ({ frames := 5, cells := 0, slots := 0, locals := 200 } : Room) D vwCl (gT K) [.ref (ma 0)] (mW K ma th ll (nI B) (nI q.length) (nI mh) fl wl fd op st zs ho ba se lx cn pe lt le wa ta) sz (mRo K ma z sd th ll op st zs lx cn q.length (tryA z sd q B ow mh fl)) 0 0 := by
  refine g_of (cc := cX3_tried) (maxL := 4) (ret := (some .int)) (Qc := fun A => va_Qi (mRo K ma z sd th ll op st zs lx cn q.length (tryA z sd q B ow mh fl)) (gB D vwCl (gT K) A) A) (by decide) rfl (Nat.le_of_ble_eq_true rfl) ?_
  intro p e s m below meth c A ls I hl
  have I0 := I
  obtain ⟨hx, hb, hr, hml, hown, hts, hlocks, hnm, hA, hK, hP, hD, hS⟩ := I
  have hown : s.vm.findClass RX3 = some m.cls := hown
  have hl : lv_has ls 4 [(0, .ref (ma 0))] := hl
  have hi_X3 : ∀ w ∈ u_ws RX3 TX3 21, w ∈ wsX3_tried := by decide +kernel
  refine lv_iconst (v := 0) hx hb dX3_tried_0 (by decide) ?_
  refine lv_istore_n (lv' := [(1, .int _), (0, .ref _)]) hx hb dX3_tried_1 rfl hl (by decide) rfl (fun ls hl => ?_)
  refine lv_iconst (v := 0) hx hb dX3_tried_2 (by decide) ?_
  refine lv_istore_n (lv' := [(2, .int _), (1, .int _), (0, .ref _)]) hx hb dX3_tried_3 rfl hl (by decide) rfl (fun ls hl => ?_)
  exact lp_tr2 hz hq8 I0 q 0 0 B mh q.length [] ho ba se ta wa pe lt le wl fd ow fl _ _ rfl (by omega) rfl hq8 hB40 hmh6 hOR hMS hQ rfl rfl hP hD hS ls (lv_sub hl [0, 1, 2] rfl)
end
section
/-! THE MODEL AS THE SAME VALUE -/
def MW (K : gCl) (m0 : Nat) (S : HS) (w : va_W) : Prop := ∃ (ma : Nat → Nat) (th wl fd : Int32) (op st zs ho ba se lx pe lt le wa ta : Nat → Int32), ma 0 = m0 ∧ w = mW K ma th (nI S.2.2.2.2.2.2.1.length) (nI S.2.2.2.2.1) (nI S.2.2.2.2.2.1.length) (nI S.2.2.2.2.2.2.2.1) S.2.2.2.2.2.2.2.2 wl fd op st zs ho ba se lx S.2.2.2.1 pe lt le wa ta ∧ MS S.1 S.2.1 op st zs se S.2.2.1 ∧ isL lx S.2.2.2.2.2.2.1 ∧ MQr pe lt le S.2.2.2.2.2.1
def RM (K : gCl) (m0 : Nat) (o : Int32 × HS) : Int32 → va_W → Prop := fun r w => r = o.1 ∧ MW K m0 o.2 w
theorem g_le9 {x : Int32} (h : x ≤ 9) : x < 10 := by
  simp only [Int32.le_iff_toInt_le, Int32.lt_iff_toInt_lt, gl_9, gl_10] at h ⊢
  omega
theorem le_pred {x : Int32} {n : Nat} (hn : n < 2 ^ 30) : x ≤ nI n - 1 ↔ x < nI n := by
  rw [Int32.le_iff_toInt_le, Int32.lt_iff_toInt_lt, nI_toInt (by omega), show (1 : Int32) = nI 1 from rfl, pk_sub_toInt hn (by decide)]
  omega
theorem MS_open {z : Nat → Nat} {sd : Nat → Int32} {op st zs se g : Nat → Int32} {ow : Nat → Nat → Int32} {r n : Nat} (h : MS z sd op st zs se ow) (hn : n ≠ 0) {f : Nat → Int32} (h1 : rowOf g r = f) (h2 : ∀ r2, r2 < 10 → r2 ≠ r → rowOf g r2 = rowOf se r2) : MS (va_up z r n) (va_up sd r 0) (upd op r 1) (upd st r 0) (upd zs r (nI n)) g (va_up ow r f) := fun r2 hr2 => by
  by_cases e : r2 = r
  · subst e
    rw [va_up_self, va_up_self, va_up_self]
    exact ⟨by simp [upd, hn], fun _ => ⟨by simp [upd], by simp [upd], h1⟩⟩
  · rw [va_up_ne _ _ e, va_up_ne _ _ e, va_up_ne _ _ e, show upd op r 1 r2 = op r2 by simp [upd, e], show upd st r 0 r2 = st r2 by simp [upd, e], show upd zs r (nI n) r2 = zs r2 by simp [upd, e], h2 r2 hr2 e]
    exact h r2 hr2
theorem MS_shut {z : Nat → Nat} {sd : Nat → Int32} {op st zs se : Nat → Int32} {ow : Nat → Nat → Int32} {r : Nat} (h : MS z sd op st zs se ow) : MS (va_up z r 0) sd (upd op r 0) st zs se ow := fun r2 hr2 => by
  by_cases e : r2 = r
  · subst e
    rw [va_up_self]
    exact ⟨by simp [upd], fun q => absurd rfl q⟩
  · rw [va_up_ne _ _ e, show upd op r 0 r2 = op r2 by simp [upd, e]]
    exact h r2 hr2
theorem MS_strict {z : Nat → Nat} {sd : Nat → Int32} {op st zs se : Nat → Int32} {ow : Nat → Nat → Int32} {r : Nat} {on : Int32} (h : MS z sd op st zs se ow) : MS z (va_up sd r on) op (upd st r on) zs se ow := fun r2 hr2 => by
  obtain ⟨h1, h2⟩ := h r2 hr2
  refine ⟨h1, fun q => ?_⟩
  obtain ⟨a, b, c⟩ := h2 q
  by_cases e : r2 = r
  · subst e; exact ⟨a, by rw [va_up_self]; simp [upd], c⟩
  · exact ⟨a, by rw [va_up_ne _ _ e, show upd st r on r2 = st r2 by simp [upd, e]]; exact b, c⟩
/-- beyond an open row's seats nobody sits -/
def TL (z : Nat → Nat) (ow : Nat → Nat → Int32) : Prop := ∀ r, r < 10 → z r ≠ 0 → ∀ j, z r ≤ j → j < 20 → ow r j = -8
theorem freeV_20 {f : Nat → Int32} {x : Int32} {z : Nat} (hz : z ≤ 20) (h : ∀ j, z ≤ j → j < 20 → f j = -8) : freeV f x 20 = freeV f x z := by
  funext j
  unfold freeV
  by_cases h1 : j < z
  · by_cases h2 : f j = x
    · rw [if_pos ⟨by omega, h2⟩, if_pos ⟨h1, h2⟩]
    · rw [if_neg (fun q => h2 q.2), if_neg (fun q => h2 q.2)]
  · rw [if_neg (show ¬ (j < z ∧ f j = x) from fun q => h1 q.1)]
    by_cases h2 : j < 20 ∧ f j = x
    · rw [if_pos h2]; exact (h j (by omega) h2.1).symm
    · rw [if_neg h2]
theorem MS_cancel {z : Nat → Nat} {sd : Nat → Int32} {op st zs se : Nat → Int32} {ow : Nat → Nat → Int32} {x : Int32} (hz : ∀ i, i < 10 → z i ≤ 20) (hT : TL z ow) (h : MS z sd op st zs se ow) : MS z sd op st zs (freeV se x 200) (fo z ow x 10) := fun r hr => by
  obtain ⟨h1, h2⟩ := h r hr
  refine ⟨h1, fun q => ?_⟩
  obtain ⟨a, b, c⟩ := h2 q
  refine ⟨a, b, ?_⟩
  rw [rowOf_freeV hr, c, freeV_20 (hz r hr) (hT r hr q)]
  simp [fo, hr]
theorem OR_cancel {z : Nat → Nat} {ow : Nat → Nat → Int32} {B : Nat} {x : Int32} (h : OR z ow B) : OR z (fo z ow x 10) B := fun r hr hz j hj => by
  simp only [fo, if_pos hr, freeV]
  split
  · exact Or.inl rfl
  · exact h r hr hz j hj
theorem OR_open {z : Nat → Nat} {ow : Nat → Nat → Int32} {B r n : Nat} (h : OR z ow B) : OR (va_up z r n) (va_up ow r (gFill (-8) 20 (ow r))) B := fun r2 hr hz j hj => by
  by_cases e : r2 = r
  · subst e; rw [va_up_self]; exact Or.inl (by simp [gFill, hj])
  · rw [va_up_ne _ _ e] at hz ⊢; exact h r2 hr hz j hj
theorem gFill_row {se : Nat → Int32} {ow : Nat → Int32} {r : Nat} (h : ∀ j, 20 ≤ j → ow j = 0) : gFill (-8) 20 (rowOf se r) = gFill (-8) 20 ow := by
  funext j
  by_cases e : j < 20
  · simp [gFill, e]
  · simp [gFill, e, rowOf, h j (by omega)]
theorem gFill_upd {v : Int32} {f : Nat → Int32} {i : Nat} : upd (gFill v i f) i v = gFill v (i + 1) f := by
  funext j
  by_cases h : j = i
  · subst h; simp [upd, gFill]
  · by_cases h2 : j < i
    · simp [upd, gFill, h, h2, show j < i + 1 by omega]
    · simp [upd, gFill, h, h2, show ¬ j < i + 1 by omega]
def cpL (lx wa : Nat → Int32) (i : Nat) : Nat → Int32 := fun x => if x < i then lx x else wa x
theorem cpL_0 (lx wa : Nat → Int32) : cpL lx wa 0 = wa := by funext x; simp [cpL]
theorem cpL_up {lx wa : Nat → Int32} {i : Nat} : upd (cpL lx wa i) i (lx i) = cpL lx wa (i + 1) := by
  funext x
  by_cases h : x = i
  · subst h; simp [cpL, upd]
  · by_cases h1 : x < i
    · simp [cpL, upd, h, h1, show x < i + 1 by omega]
    · simp [cpL, upd, h, h1, show ¬ x < i + 1 by omega]
def cpQ (wa lt : Nat → Int32) (k i : Nat) : Nat → Int32 := fun x => if 6 * k ≤ x ∧ x < 6 * k + i then wa (x - 6 * k) else lt x
theorem cpQ_0 (wa lt : Nat → Int32) (k : Nat) : cpQ wa lt k 0 = lt := by funext x; simp only [cpQ]; rw [if_neg (by omega)]
theorem cpQ_up {wa lt : Nat → Int32} {k i : Nat} : upd (cpQ wa lt k i) (6 * k + i) (wa i) = cpQ wa lt k (i + 1) := by
  funext x
  by_cases h : x = 6 * k + i
  · subst h; simp only [upd, cpQ, if_true]; rw [if_pos (by omega), show 6 * k + i - 6 * k = i by omega]
  · simp only [upd, cpQ, if_neg h]
    by_cases h1 : 6 * k ≤ x ∧ x < 6 * k + i
    · rw [if_pos h1, if_pos (by omega)]
    · rw [if_neg h1, if_neg (by omega)]
theorem MQr_push {pe lt le wa : Nat → Int32} {q : List Pty} {n : Nat} {L : List Nat} (h : MQr pe lt le q) (hL : isL wa L) (hn1 : 1 ≤ n) (hn2 : n ≤ 60) : MQr (upd pe q.length (nI n)) (cpQ wa lt q.length L.length) (upd le q.length (nI L.length)) (q ++ [(n, L)]) := fun i P hi => by
  rcases Nat.lt_or_ge i q.length with c | c
  · rw [List.getElem?_append_left c] at hi
    obtain ⟨h1, h2, h3, h4⟩ := h i P hi
    have := h4.1
    refine ⟨?_, ?_, fun t ht => ?_, h4⟩
    · rw [show upd pe q.length (nI n) i = pe i by simp [upd, show i ≠ q.length by omega]]; exact h1
    · rw [show upd le q.length (nI L.length) i = le i by simp [upd, show i ≠ q.length by omega]]; exact h2
    · simp only [cpQ]; rw [if_neg (by omega)]; exact h3 t ht
  · have hl := (List.getElem?_eq_some_iff.mp hi).1
    rw [List.length_append, List.length_singleton] at hl
    have e : i = q.length := by omega
    rw [e, List.getElem?_append_right (Nat.le_refl _), Nat.sub_self] at hi
    cases hi
    rw [e]
    refine ⟨by simp [upd], by simp [upd], fun t ht => ?_, hL.1, hL.2.2, hn1, hn2⟩
    have ht : t < L.length := ht
    simp only [cpQ]; rw [if_pos (by omega), show 6 * q.length + t - 6 * q.length = t by omega]
    exact hL.2.1 t ht
theorem isL_cpL {lx wa : Nat → Int32} {L : List Nat} (h : isL lx L) : isL (cpL lx wa L.length) L := ⟨h.1, fun i hi => by simp only [cpL]; rw [if_pos hi]; exact h.2.1 i hi, h.2.2⟩
set_option maxHeartbeats 4000000 in
set_option maxRecDepth 100000 in
theorem lp_free {p : Program} {l : Launch} {e : Env} {s : State} {m : MethodId} {args : Array Value} {below : List Frame} {meth : Method} {c : Code} {A : Nat → Prop} {D : va_G} {K : gCl} {ws0 : va_W} {rm : Room} {ma : Nat → Nat} {op st zs ho ba se lx cn pe lt le wa ta : Nat → Int32} {th ll B wt mh fl wl fd : Int32} {r zz : Nat} (hr10 : r < 10) (hzz : zz ≤ 20) (hsz : zs r = nI zz)
    (I : gIn p s m meth c A yX3_free wsX3_free cX3_free 4 (some .int) args D vwCl (gT K) ws0)  :
    ∀ (k : Nat) (i : Nat) (H : Heap) (locs : List Loc), i + k = zz → va_P D vwCl (mW K ma th ll B wt mh fl wl fd op st zs ho ba se lx cn pe lt le wa ta) H → va_D A (mW K ma th ll B wt mh fl wl fd op st zs ho ba se lx cn pe lt le wa ta) → va_S A s.heap H locs →
    ∀ (ls : Array Slot), lv_has ls 4 [(3, .int (nI i)), (2, .int (nI (cntV (rowOf se r) (-8) i))), (0, .ref (ma 0)), (1, .int (nI r))] →
    W p l e rm s m args below meth c H locs 0 0 (MQ below (va_Qi (fun r1 w1 => w1 = mW K ma th ll B wt mh fl wl fd op st zs ho ba se lx cn pe lt le wa ta ∧ r1 = nI (cntV (rowOf se r) (-8) zz)) (gB D vwCl (gT K) A) A) args s 0 0 A) (F0 m 4 ls []) := by
  have I0 := I
  obtain ⟨hx, hb, hr, hml, hown, hts, hlocks, hnm, hA, hK, -, -, -⟩ := I
  have hown : s.vm.findClass RX3 = some m.cls := hown
  have hi_X3 : ∀ w ∈ u_ws RX3 TX3 21, w ∈ wsX3_free := by decide +kernel
  intro k
  induction k with
  | zero =>
    intro i H locs hi hP hD hS ls hl
    have hiz : i = zz := by omega
    subst hiz
    refine lv_iload_n hx hb dX3_free_4 rfl (lv_at hl 0 rfl) ?_
    refine lv_aload_n hx hb dX3_free_5 rfl (lv_at hl 2 rfl) ?_
    refine va_get (C := RX3) (T := TX3) (N := 21) (ci := 3) hx hb hts hi_X3 hown hK hP (0) (rfl) rfl 3 (by decide) (hts (.fieldLink RX3 16 "GroupSeatsModel" "size" "[I") (by decide +kernel)) (fun _ h9 => h9) rfl dX3_free_6 ?_
    refine lv_iload_n hx hb dX3_free_9 rfl (lv_at hl 3 rfl) ?_
    refine va_iald hx hb hK hP (3) 0 (rfl) rfl (vp_in_nI (show r < 10 by omega) (by decide)) dX3_free_10 ?_
    rw [nI_clamp (n := r) (by omega), hsz]
    refine lv_icmp_ge (tgt := 44) hx hb dX3_free_11 (by decide) (fun c11 => ?_) (fun c11 => ?_)
    · refine lv_iload_n hx hb dX3_free_44 rfl (lv_at hl 1 rfl) ?_
      exact g_iret hx hb hr hlocks (Nat.le_of_ble_eq_true rfl) (Nat.le_of_ble_eq_true rfl) hK hP hD hS dX3_free_45 (⟨rfl, rfl⟩)
    · exact absurd (nI_le (by omega) (by omega)) c11
  | succ k ih =>
    intro i H locs hi hP hD hS ls hl
    refine lv_iload_n hx hb dX3_free_4 rfl (lv_at hl 0 rfl) ?_
    refine lv_aload_n hx hb dX3_free_5 rfl (lv_at hl 2 rfl) ?_
    refine va_get (C := RX3) (T := TX3) (N := 21) (ci := 3) hx hb hts hi_X3 hown hK hP (0) (rfl) rfl 3 (by decide) (hts (.fieldLink RX3 16 "GroupSeatsModel" "size" "[I") (by decide +kernel)) (fun _ h9 => h9) rfl dX3_free_6 ?_
    refine lv_iload_n hx hb dX3_free_9 rfl (lv_at hl 3 rfl) ?_
    refine va_iald hx hb hK hP (3) 0 (rfl) rfl (vp_in_nI (show r < 10 by omega) (by decide)) dX3_free_10 ?_
    rw [nI_clamp (n := r) (by omega), hsz]
    refine lv_icmp_ge (tgt := 44) hx hb dX3_free_11 (by decide) (fun c11 => ?_) (fun c11 => ?_)
    · exact absurd c11 (nI_ge (by omega) (by omega))
    · refine lv_iload_n hx hb dX3_free_14 rfl (lv_at hl 1 rfl) ?_
      refine lv_aload_n hx hb dX3_free_15 rfl (lv_at hl 2 rfl) ?_
      refine va_get (C := RX3) (T := TX3) (N := 21) (ci := 3) hx hb hts hi_X3 hown hK hP (0) (rfl) rfl 6 (by decide) (hts (.fieldLink RX3 26 "GroupSeatsModel" "seats" "[I") (by decide +kernel)) (fun _ h9 => h9) rfl dX3_free_16 ?_
      refine lv_bipush (v := 20) hx hb dX3_free_19 (by decide) ?_
      refine lv_iload_n hx hb dX3_free_21 rfl (lv_at hl 3 rfl) ?_
      refine lv_imul hx hb dX3_free_22 ?_
      refine lv_iload_n hx hb dX3_free_23 rfl (lv_at hl 0 rfl) ?_
      refine lv_iadd hx hb dX3_free_24 ?_
      refine va_iald hx hb hK hP (6) 0 (rfl) rfl (in_20 hr10 (show i < 20 by omega)) dX3_free_25 ?_
      refine lv_bipush (v := -8) hx hb dX3_free_26 (by decide) ?_
      refine lv_icmp_ne (tgt := 35) hx hb dX3_free_28 (by decide) (fun c28 => ?_) (fun c28 => ?_)
      · refine lv_iconst (v := 0) hx hb dX3_free_35 (by decide) ?_
        refine lv_iadd hx hb dX3_free_36 ?_
        refine lv_istore_n (lv' := [(2, .int _), (3, .int _), (0, .ref _), (1, .int _)]) hx hb dX3_free_37 rfl hl (by decide) rfl (fun ls hl => ?_)
        refine lv_iinc (lv' := [(3, .int _), (2, .int _), (0, .ref _), (1, .int _)]) hx hb dX3_free_38 hl (k := 1) rfl rfl (by decide) rfl (fun ls hl => ?_)
        refine lv_goto (tgt := 4) hx hb dX3_free_41 (by decide) ?_
        rw [ix_20 hr10 (by omega), ← rowOf_in (g := se) (r := r) (show i < 20 by omega)] at c28
        rw [g_inc] at hl
        have e1 : cntV (rowOf se r) (-8) (i + 1) = cntV (rowOf se r) (-8) i := by simp [cntV, c28]
        rw [Int32.add_zero, ← e1] at hl
        exact ih (i + 1) H locs (by omega) hP hD hS ls (lv_sub hl [0, 1, 2, 3] rfl)
      · refine lv_iconst (v := 1) hx hb dX3_free_31 (by decide) ?_
        refine lv_goto (tgt := 36) hx hb dX3_free_32 (by decide) ?_
        refine lv_iadd hx hb dX3_free_36 ?_
        refine lv_istore_n (lv' := [(2, .int _), (3, .int _), (0, .ref _), (1, .int _)]) hx hb dX3_free_37 rfl hl (by decide) rfl (fun ls hl => ?_)
        refine lv_iinc (lv' := [(3, .int _), (2, .int _), (0, .ref _), (1, .int _)]) hx hb dX3_free_38 hl (k := 1) rfl rfl (by decide) rfl (fun ls hl => ?_)
        refine lv_goto (tgt := 4) hx hb dX3_free_41 (by decide) ?_
        rw [ix_20 hr10 (by omega), ← rowOf_in (g := se) (r := r) (show i < 20 by omega)] at c28
        rw [g_inc] at hl
        have e1 : cntV (rowOf se r) (-8) (i + 1) = cntV (rowOf se r) (-8) i + 1 := by simp [cntV, c28]
        rw [nI_1, ← e1] at hl
        exact ih (i + 1) H locs (by omega) hP hD hS ls (lv_sub hl [0, 1, 2, 3] rfl)
set_option maxHeartbeats 4000000 in
set_option maxRecDepth 100000 in
/-- the model: free -/
theorem m_free (l : Launch) (D : va_G) (K : gCl) (ma : Nat → Nat) (op st zs ho ba se lx cn pe lt le wa ta : Nat → Int32) (th ll B wt mh fl wl fd : Int32) (r zz : Nat) (sz : Nat) (hr10 : r < 10) (hzz : zz ≤ 20) (hsz : zs r = nI zz) : gMi l yX3_free wsX3_free ({ frames := 0, cells := 0, slots := 0, locals := 0 } : Room) D vwCl (gT K) [.ref (ma 0), .int (nI r)] (mW K ma th ll B wt mh fl wl fd op st zs ho ba se lx cn pe lt le wa ta) sz (fun r1 w1 => w1 = mW K ma th ll B wt mh fl wl fd op st zs ho ba se lx cn pe lt le wa ta ∧ r1 = nI (cntV (rowOf se r) (-8) zz)) 0 0 := by
  refine g_of (cc := cX3_free) (maxL := 4) (ret := (some .int)) (Qc := fun A => va_Qi (fun r1 w1 => w1 = mW K ma th ll B wt mh fl wl fd op st zs ho ba se lx cn pe lt le wa ta ∧ r1 = nI (cntV (rowOf se r) (-8) zz)) (gB D vwCl (gT K) A) A) (by decide) rfl (Nat.le_of_ble_eq_true rfl) ?_
  intro p e s m below meth c A ls I hl
  have I0 := I
  obtain ⟨hx, hb, hr, hml, hown, hts, hlocks, hnm, hA, hK, hP, hD, hS⟩ := I
  have hown : s.vm.findClass RX3 = some m.cls := hown
  have hl : lv_has ls 4 [(0, .ref (ma 0)), (1, .int (nI r))] := hl
  have hi_X3 : ∀ w ∈ u_ws RX3 TX3 21, w ∈ wsX3_free := by decide +kernel
  refine lv_iconst (v := 0) hx hb dX3_free_0 (by decide) ?_
  refine lv_istore_n (lv' := [(2, .int _), (0, .ref _), (1, .int _)]) hx hb dX3_free_1 rfl hl (by decide) rfl (fun ls hl => ?_)
  refine lv_iconst (v := 0) hx hb dX3_free_2 (by decide) ?_
  refine lv_istore_n (lv' := [(3, .int _), (2, .int _), (0, .ref _), (1, .int _)]) hx hb dX3_free_3 rfl hl (by decide) rfl (fun ls hl => ?_)
  exact lp_free hr10 hzz hsz I0 zz 0 _ _ (by omega) hP hD hS ls (lv_sub hl [0, 1, 2, 3] rfl)
set_option maxHeartbeats 4000000 in
set_option maxRecDepth 100000 in
theorem m_shut (l : Launch) (D : va_G) (K : gCl) (ma : Nat → Nat) (op st zs ho ba se lx cn pe lt le wa ta : Nat → Int32) (th wl fd : Int32) (z : Nat → Nat) (sd : Nat → Int32) (ow : Nat → Nat → Int32) (B mh : Nat) (fl : Int32) (q : List Pty) (li : List Nat) (x : Int32) (sz : Nat) (hz : ∀ i, i < 10 → z i ≤ 20) (hB40 : B ≤ 40) (hq8 : q.length ≤ 8) (hmh6 : mh ≤ 6) (hOR : OR z ow B) (hMS : MS z sd op st zs se ow) (hLc : isL lx li) (hQ : MQr pe lt le q) : gMi l yX3_shut wsX3_shut ({ frames := 7, cells := 0, slots := 0, locals := 260 } : Room) D vwCl (gT K) [.ref (ma 0), .int x] (mW K ma th (nI li.length) (nI B) (nI q.length) (nI mh) fl wl fd op st zs ho ba se lx cn pe lt le wa ta) sz (RM K (ma 0) (opShut z sd ow cn B q li mh fl x)) 0 0 := by
  refine g_of (cc := cX3_shut) (maxL := 2) (ret := (some .int)) (Qc := fun A => va_Qi (RM K (ma 0) (opShut z sd ow cn B q li mh fl x)) (gB D vwCl (gT K) A) A) (by decide) rfl (Nat.le_of_ble_eq_true rfl) ?_
  intro p e s m below meth c A ls I hl
  have I0 := I
  obtain ⟨hx, hb, hr, hml, hown, hts, hlocks, hnm, hA, hK, hP, hD, hS⟩ := I
  have hown : s.vm.findClass RX3 = some m.cls := hown
  have hl : lv_has ls 2 [(0, .ref (ma 0)), (1, .int x)] := hl
  have hi_X3 : ∀ w ∈ u_ws RX3 TX3 21, w ∈ wsX3_shut := by decide +kernel
  refine lv_aload_n hx hb dX3_shut_0 rfl (lv_at hl 0 rfl) ?_
  refine lv_iconst (v := 0) hx hb dX3_shut_1 (by decide) ?_
  refine va_put (C := RX3) (T := TX3) (N := 21) (ci := 3) (ty := .int) hx hb hts hi_X3 tyX3 tyX3_ok nmX3 hown hK hP hD hS (0) (rfl) rfl 0 (by decide) (hts (.fieldLink RX3 50 "GroupSeatsModel" "thrown" "I") (by decide +kernel)) (fun _ h9 => h9) rfl (by decide +kernel) rfl rfl (Nat.le_of_ble_eq_true rfl) dX3_shut_2 (fun H locs hP hD hS => ?_)
  have hP : va_P D vwCl (mW K ma 0 (nI li.length) (nI B) (nI q.length) (nI mh) fl wl fd op st zs ho ba se lx cn pe lt le wa ta) H := hP
  have hD : va_D A (mW K ma 0 (nI li.length) (nI B) (nI q.length) (nI mh) fl wl fd op st zs ho ba se lx cn pe lt le wa ta) := hD
  refine lv_iload_n hx hb dX3_shut_5 rfl (lv_at hl 1 rfl) ?_
  refine lv_iconst (v := 0) hx hb dX3_shut_6 (by decide) ?_
  refine lv_bipush (v := 9) hx hb dX3_shut_7 (by decide) ?_
  refine g_calli (va_runS (As := [.int _, .int _, .int _]) (rest := []) ⟨hx, hb, hml, hown, hts⟩ (c_in l D K _ _ _ _ _) (va_cwS 3 hts gX3_shut_X3_in rfl rfl rfl (by decide +kernel) ⟨(Nat.le_of_ble_eq_true rfl), (Nat.le_of_ble_eq_true rfl)⟩) (g_preS hK hP hD) rfl rfl hl.1 rfl (lv_room (Nat.le_of_ble_eq_true rfl)) dX3_shut_9 ⟨Nat.zero_le _, Nat.zero_le _⟩) hD hS hA (fun r9 wv H locs hw hP hD hS => ?_)
  obtain ⟨ew, e9⟩ := hw
  rw [ew] at hP hD
  refine lv_if_ne (tgt := 17) hx hb dX3_shut_12 (by decide) (fun c12 => ?_) (fun c12 => ?_)
  · simp only [e9, Classical.not_not] at c12
    obtain ⟨r, hr10, rfl⟩ := g_ix (n := 10) (M := 10) rfl ⟨c12.1, g_le9 c12.2⟩
    have hrz := hz r hr10
    have hxr : ixN (nI r) = r := ixN_nI (by omega)
    have hmr := hMS r hr10
    refine lv_aload_n hx hb dX3_shut_17 rfl (lv_at hl 0 rfl) ?_
    refine va_get (C := RX3) (T := TX3) (N := 21) (ci := 3) hx hb hts hi_X3 hown hK hP (0) (rfl) rfl 1 (by decide) (hts (.fieldLink RX3 7 "GroupSeatsModel" "isOpen" "[Z") (by decide +kernel)) (fun _ h9 => h9) rfl dX3_shut_18 ?_
    refine lv_iload_n hx hb dX3_shut_21 rfl (lv_at hl 1 rfl) ?_
    refine va_zald hx hb hK hP (1) 1 (rfl) rfl (vp_in_nI (show r < 10 by omega) (by decide)) dX3_shut_22 ?_
    refine lv_if_eq (tgt := 40) hx hb dX3_shut_23 (by decide) (fun c23 => ?_) (fun c23 => ?_)
    · rw [nI_clamp (n := r) (by omega), hmr.1] at c23
      have hzr : z r = 0 := Classical.not_not.mp (fun q => by rw [if_neg q] at c23; exact absurd c23 (by decide))
      refine lv_bipush (v := -2) hx hb dX3_shut_40 (by decide) ?_
      exact g_iret hx hb hr hlocks (Nat.le_of_ble_eq_true rfl) (Nat.le_of_ble_eq_true rfl) hK hP hD hS dX3_shut_42 (by unfold opShut; rw [if_pos (inRow_nI hr10), hxr, if_neg (fun h => h.1 hzr)]; exact ⟨rfl, ⟨ma, 0, wl, fd, op, st, zs, ho, ba, se, lx, pe, lt, le, wa, ta, rfl, rfl, hMS, hLc, hQ⟩⟩)
    · rw [nI_clamp (n := r) (by omega), hmr.1] at c23
      have hzr : z r ≠ 0 := fun q => c23 (by rw [if_pos q])
      have hzs := hmr.2 hzr
      refine lv_aload_n hx hb dX3_shut_26 rfl (lv_at hl 0 rfl) ?_
      refine lv_iload_n hx hb dX3_shut_27 rfl (lv_at hl 1 rfl) ?_
      refine g_calli (va_runV (As := [.int _]) (rest := []) ⟨hx, hb, hml, hown, hts⟩ (m_free l D K ma op st zs ho ba se lx cn pe lt le wa ta 0 (nI li.length) (nI B) (nI q.length) (nI mh) fl wl fd r (z r) _ hr10 hrz hzs.1) (cwV 1 hts gX3_shut_X3_free rfl rfl rfl (by decide +kernel) ⟨(Nat.le_of_ble_eq_true rfl), (Nat.le_of_ble_eq_true rfl)⟩) (g_preV hK hP hD (ci := 3) (q0 := 0) rfl (rfl)) rfl rfl hl.1 rfl (lv_room (Nat.le_of_ble_eq_true rfl)) dX3_shut_28 ⟨Nat.zero_le _, Nat.zero_le _⟩) hD hS hA (fun r28 wv H locs hw hP hD hS => ?_)
      obtain ⟨ew, er⟩ := hw
      rw [ew] at hP hD
      rw [hzs.2.2] at er
      rw [er]
      refine lv_aload_n hx hb dX3_shut_31 rfl (lv_at hl 0 rfl) ?_
      refine va_get (C := RX3) (T := TX3) (N := 21) (ci := 3) hx hb hts hi_X3 hown hK hP (0) (rfl) rfl 3 (by decide) (hts (.fieldLink RX3 16 "GroupSeatsModel" "size" "[I") (by decide +kernel)) (fun _ h9 => h9) rfl dX3_shut_32 ?_
      refine lv_iload_n hx hb dX3_shut_35 rfl (lv_at hl 1 rfl) ?_
      refine va_iald hx hb hK hP (3) 0 (rfl) rfl (vp_in_nI (show r < 10 by omega) (by decide)) dX3_shut_36 ?_
      rw [nI_clamp (n := r) (by omega), hzs.1]
      refine lv_icmp_ge (tgt := 43) hx hb dX3_shut_37 (by decide) (fun c37 => ?_) (fun c37 => ?_)
      · refine lv_aload_n hx hb dX3_shut_43 rfl (lv_at hl 0 rfl) ?_
        refine va_get (C := RX3) (T := TX3) (N := 21) (ci := 3) hx hb hts hi_X3 hown hK hP (0) (rfl) rfl 1 (by decide) (hts (.fieldLink RX3 7 "GroupSeatsModel" "isOpen" "[Z") (by decide +kernel)) (fun _ h9 => h9) rfl dX3_shut_44 ?_
        refine lv_iload_n hx hb dX3_shut_47 rfl (lv_at hl 1 rfl) ?_
        refine lv_iconst (v := 0) hx hb dX3_shut_48 (by decide) ?_
        refine va_zast hx hb hK hP hD hS (1) 1 (rfl) rfl (vp_in_nI (show r < 10 by omega) (by decide)) dX3_shut_49 (fun H locs hP hD hS => ?_)
        have hP : va_P D vwCl (mW K ma 0 (nI li.length) (nI B) (nI q.length) (nI mh) fl wl fd (upd op (nI r).toNatClampNeg (vp_nar .boolean 0)) st zs ho ba se lx cn pe lt le wa ta) H := hP
        have hD : va_D A (mW K ma 0 (nI li.length) (nI B) (nI q.length) (nI mh) fl wl fd (upd op (nI r).toNatClampNeg (vp_nar .boolean 0)) st zs ho ba se lx cn pe lt le wa ta) := hD
        rw [nI_clamp (n := r) (by omega), show vp_nar .boolean 0 = 0 from rfl] at hP hD
        refine lv_aload_n hx hb dX3_shut_50 rfl (lv_at hl 0 rfl) ?_
        refine va_get (C := RX3) (T := TX3) (N := 21) (ci := 3) hx hb hts hi_X3 hown hK hP (0) (rfl) rfl 3 (by decide) (hts (.fieldLink RX3 16 "GroupSeatsModel" "size" "[I") (by decide +kernel)) (fun _ h9 => h9) rfl dX3_shut_51 ?_
        refine lv_iload_n hx hb dX3_shut_54 rfl (lv_at hl 1 rfl) ?_
        refine va_iald hx hb hK hP (3) 0 (rfl) rfl (vp_in_nI (show r < 10 by omega) (by decide)) dX3_shut_55 ?_
        rw [nI_clamp (n := r) (by omega), hzs.1]
        exact g_iret hx hb hr hlocks (Nat.le_of_ble_eq_true rfl) (Nat.le_of_ble_eq_true rfl) hK hP hD hS dX3_shut_56 (by have hcl := cntV_le (ow r) (-8) (z r); have hc2 := (nI_leI (by omega) (by omega)).mp c37; unfold opShut; rw [if_pos (inRow_nI hr10), hxr, if_pos ⟨hzr, by omega⟩]; exact ⟨rfl, ma, 0, wl, fd, _, st, zs, ho, ba, se, lx, pe, lt, le, wa, ta, rfl, rfl, MS_shut hMS, hLc, hQ⟩)
      · refine lv_bipush (v := -2) hx hb dX3_shut_40 (by decide) ?_
        exact g_iret hx hb hr hlocks (Nat.le_of_ble_eq_true rfl) (Nat.le_of_ble_eq_true rfl) hK hP hD hS dX3_shut_42 (by unfold opShut; rw [if_pos (inRow_nI hr10), hxr, if_neg (fun h => c37 (by rw [h.2]; exact nI_le (Nat.le_refl _) (by omega)))]; exact ⟨rfl, ⟨ma, 0, wl, fd, op, st, zs, ho, ba, se, lx, pe, lt, le, wa, ta, rfl, rfl, hMS, hLc, hQ⟩⟩)
  · simp only [e9, Classical.not_not] at c12
    refine lv_iconst (v := -1) hx hb dX3_shut_15 (by decide) ?_
    exact g_iret hx hb hr hlocks (Nat.le_of_ble_eq_true rfl) (Nat.le_of_ble_eq_true rfl) hK hP hD hS dX3_shut_16 (by unfold opShut; rw [if_neg (fun h => by simp only [inRow, Int32.le_iff_toInt_le, Int32.lt_iff_toInt_lt, gl_m1, gl_0, gl_1, gl_2, gl_3, gl_5, gl_6, gl_8, gl_9, gl_10, gl_11, gl_20, gl_40, gl_60] at h c12; omega)]; exact ⟨rfl, ⟨ma, 0, wl, fd, op, st, zs, ho, ba, se, lx, pe, lt, le, wa, ta, rfl, rfl, hMS, hLc, hQ⟩⟩)
set_option maxHeartbeats 4000000 in
set_option maxRecDepth 100000 in
theorem m_strict (l : Launch) (D : va_G) (K : gCl) (ma : Nat → Nat) (op st zs ho ba se lx cn pe lt le wa ta : Nat → Int32) (th wl fd : Int32) (z : Nat → Nat) (sd : Nat → Int32) (ow : Nat → Nat → Int32) (B mh : Nat) (fl : Int32) (q : List Pty) (li : List Nat) (x on : Int32) (sz : Nat) (hz : ∀ i, i < 10 → z i ≤ 20) (hB40 : B ≤ 40) (hq8 : q.length ≤ 8) (hmh6 : mh ≤ 6) (hOR : OR z ow B) (hMS : MS z sd op st zs se ow) (hLc : isL lx li) (hQ : MQr pe lt le q) (hon : on = 0 ∨ on = 1) : gMi l yX3_strict wsX3_strict ({ frames := 7, cells := 0, slots := 0, locals := 260 } : Room) D vwCl (gT K) [.ref (ma 0), .int x, .int on] (mW K ma th (nI li.length) (nI B) (nI q.length) (nI mh) fl wl fd op st zs ho ba se lx cn pe lt le wa ta) sz (RM K (ma 0) (opStrict z sd ow cn B q li mh fl x on)) 0 0 := by
  refine g_of (cc := cX3_strict) (maxL := 4) (ret := (some .int)) (Qc := fun A => va_Qi (RM K (ma 0) (opStrict z sd ow cn B q li mh fl x on)) (gB D vwCl (gT K) A) A) (by decide) rfl (Nat.le_of_ble_eq_true rfl) ?_
  intro p e s m below meth c A ls I hl
  have I0 := I
  obtain ⟨hx, hb, hr, hml, hown, hts, hlocks, hnm, hA, hK, hP, hD, hS⟩ := I
  have hown : s.vm.findClass RX3 = some m.cls := hown
  have hl : lv_has ls 4 [(0, .ref (ma 0)), (1, .int x), (2, .int on)] := hl
  have hi_X3 : ∀ w ∈ u_ws RX3 TX3 21, w ∈ wsX3_strict := by decide +kernel
  refine lv_aload_n hx hb dX3_strict_0 rfl (lv_at hl 0 rfl) ?_
  refine lv_iconst (v := 0) hx hb dX3_strict_1 (by decide) ?_
  refine va_put (C := RX3) (T := TX3) (N := 21) (ci := 3) (ty := .int) hx hb hts hi_X3 tyX3 tyX3_ok nmX3 hown hK hP hD hS (0) (rfl) rfl 0 (by decide) (hts (.fieldLink RX3 50 "GroupSeatsModel" "thrown" "I") (by decide +kernel)) (fun _ h9 => h9) rfl (by decide +kernel) rfl rfl (Nat.le_of_ble_eq_true rfl) dX3_strict_2 (fun H locs hP hD hS => ?_)
  have hP : va_P D vwCl (mW K ma 0 (nI li.length) (nI B) (nI q.length) (nI mh) fl wl fd op st zs ho ba se lx cn pe lt le wa ta) H := hP
  have hD : va_D A (mW K ma 0 (nI li.length) (nI B) (nI q.length) (nI mh) fl wl fd op st zs ho ba se lx cn pe lt le wa ta) := hD
  refine lv_iload_n hx hb dX3_strict_5 rfl (lv_at hl 1 rfl) ?_
  refine lv_iconst (v := 0) hx hb dX3_strict_6 (by decide) ?_
  refine lv_bipush (v := 9) hx hb dX3_strict_7 (by decide) ?_
  refine g_calli (va_runS (As := [.int _, .int _, .int _]) (rest := []) ⟨hx, hb, hml, hown, hts⟩ (c_in l D K _ _ _ _ _) (va_cwS 3 hts gX3_strict_X3_in rfl rfl rfl (by decide +kernel) ⟨(Nat.le_of_ble_eq_true rfl), (Nat.le_of_ble_eq_true rfl)⟩) (g_preS hK hP hD) rfl rfl hl.1 rfl (lv_room (Nat.le_of_ble_eq_true rfl)) dX3_strict_9 ⟨Nat.zero_le _, Nat.zero_le _⟩) hD hS hA (fun r9 wv H locs hw hP hD hS => ?_)
  obtain ⟨ew, e9⟩ := hw
  rw [ew] at hP hD
  refine lv_if_ne (tgt := 17) hx hb dX3_strict_12 (by decide) (fun c12 => ?_) (fun c12 => ?_)
  · simp only [e9, Classical.not_not] at c12
    obtain ⟨r, hr10, rfl⟩ := g_ix (n := 10) (M := 10) rfl ⟨c12.1, g_le9 c12.2⟩
    have hrz := hz r hr10
    have hxr : ixN (nI r) = r := ixN_nI (by omega)
    have hmr := hMS r hr10
    refine lv_aload_n hx hb dX3_strict_17 rfl (lv_at hl 0 rfl) ?_
    refine va_get (C := RX3) (T := TX3) (N := 21) (ci := 3) hx hb hts hi_X3 hown hK hP (0) (rfl) rfl 1 (by decide) (hts (.fieldLink RX3 7 "GroupSeatsModel" "isOpen" "[Z") (by decide +kernel)) (fun _ h9 => h9) rfl dX3_strict_18 ?_
    refine lv_iload_n hx hb dX3_strict_21 rfl (lv_at hl 1 rfl) ?_
    refine va_zald hx hb hK hP (1) 1 (rfl) rfl (vp_in_nI (show r < 10 by omega) (by decide)) dX3_strict_22 ?_
    refine lv_if_ne (tgt := 29) hx hb dX3_strict_23 (by decide) (fun c23 => ?_) (fun c23 => ?_)
    · rw [nI_clamp (n := r) (by omega), hmr.1] at c23
      have hzr : z r ≠ 0 := fun q => c23 (by rw [if_pos q])
      have hzs := hmr.2 hzr
      refine lv_aload_n hx hb dX3_strict_29 rfl (lv_at hl 0 rfl) ?_
      refine va_get (C := RX3) (T := TX3) (N := 21) (ci := 3) hx hb hts hi_X3 hown hK hP (0) (rfl) rfl 2 (by decide) (hts (.fieldLink RX3 13 "GroupSeatsModel" "isStrict" "[Z") (by decide +kernel)) (fun _ h9 => h9) rfl dX3_strict_30 ?_
      refine lv_iload_n hx hb dX3_strict_33 rfl (lv_at hl 1 rfl) ?_
      refine va_zald hx hb hK hP (2) 1 (rfl) rfl (vp_in_nI (show r < 10 by omega) (by decide)) dX3_strict_34 ?_
      refine lv_if_eq (tgt := 42) hx hb dX3_strict_35 (by decide) (fun c35 => ?_) (fun c35 => ?_)
      · refine lv_iconst (v := 0) hx hb dX3_strict_42 (by decide) ?_
        refine lv_istore_n (lv' := [(3, .int _), (0, .ref _), (1, .int _), (2, .int _)]) hx hb dX3_strict_43 rfl hl (by decide) rfl (fun ls hl => ?_)
        refine lv_aload_n hx hb dX3_strict_44 rfl (lv_at hl 1 rfl) ?_
        refine va_get (C := RX3) (T := TX3) (N := 21) (ci := 3) hx hb hts hi_X3 hown hK hP (0) (rfl) rfl 2 (by decide) (hts (.fieldLink RX3 13 "GroupSeatsModel" "isStrict" "[Z") (by decide +kernel)) (fun _ h9 => h9) rfl dX3_strict_45 ?_
        refine lv_iload_n hx hb dX3_strict_48 rfl (lv_at hl 2 rfl) ?_
        refine lv_iload_n hx hb dX3_strict_49 rfl (lv_at hl 3 rfl) ?_
        refine va_zast hx hb hK hP hD hS (2) 1 (rfl) rfl (vp_in_nI (show r < 10 by omega) (by decide)) dX3_strict_50 (fun H locs hP hD hS => ?_)
        have hP : va_P D vwCl (mW K ma 0 (nI li.length) (nI B) (nI q.length) (nI mh) fl wl fd op (upd st (nI r).toNatClampNeg (vp_nar .boolean on)) zs ho ba se lx cn pe lt le wa ta) H := hP
        have hD : va_D A (mW K ma 0 (nI li.length) (nI B) (nI q.length) (nI mh) fl wl fd op (upd st (nI r).toNatClampNeg (vp_nar .boolean on)) zs ho ba se lx cn pe lt le wa ta) := hD
        rw [nI_clamp (n := r) (by omega), show vp_nar .boolean on = on from by rcases hon with rfl | rfl <;> rfl] at hP hD
        refine lv_iload_n hx hb dX3_strict_51 rfl (lv_at hl 0 rfl) ?_
        exact g_iret hx hb hr hlocks (Nat.le_of_ble_eq_true rfl) (Nat.le_of_ble_eq_true rfl) hK hP hD hS dX3_strict_52 (by rw [nI_clamp (n := r) (by omega), hzs.2.1] at c35; unfold opStrict; rw [if_pos (inRow_nI hr10), hxr, if_neg hzr, if_pos c35]; exact ⟨rfl, ma, 0, wl, fd, op, _, zs, ho, ba, se, lx, pe, lt, le, wa, ta, rfl, rfl, MS_strict hMS, hLc, hQ⟩)
      · refine lv_iconst (v := 1) hx hb dX3_strict_38 (by decide) ?_
        refine lv_goto (tgt := 43) hx hb dX3_strict_39 (by decide) ?_
        refine lv_istore_n (lv' := [(3, .int _), (0, .ref _), (1, .int _), (2, .int _)]) hx hb dX3_strict_43 rfl hl (by decide) rfl (fun ls hl => ?_)
        refine lv_aload_n hx hb dX3_strict_44 rfl (lv_at hl 1 rfl) ?_
        refine va_get (C := RX3) (T := TX3) (N := 21) (ci := 3) hx hb hts hi_X3 hown hK hP (0) (rfl) rfl 2 (by decide) (hts (.fieldLink RX3 13 "GroupSeatsModel" "isStrict" "[Z") (by decide +kernel)) (fun _ h9 => h9) rfl dX3_strict_45 ?_
        refine lv_iload_n hx hb dX3_strict_48 rfl (lv_at hl 2 rfl) ?_
        refine lv_iload_n hx hb dX3_strict_49 rfl (lv_at hl 3 rfl) ?_
        refine va_zast hx hb hK hP hD hS (2) 1 (rfl) rfl (vp_in_nI (show r < 10 by omega) (by decide)) dX3_strict_50 (fun H locs hP hD hS => ?_)
        have hP : va_P D vwCl (mW K ma 0 (nI li.length) (nI B) (nI q.length) (nI mh) fl wl fd op (upd st (nI r).toNatClampNeg (vp_nar .boolean on)) zs ho ba se lx cn pe lt le wa ta) H := hP
        have hD : va_D A (mW K ma 0 (nI li.length) (nI B) (nI q.length) (nI mh) fl wl fd op (upd st (nI r).toNatClampNeg (vp_nar .boolean on)) zs ho ba se lx cn pe lt le wa ta) := hD
        rw [nI_clamp (n := r) (by omega), show vp_nar .boolean on = on from by rcases hon with rfl | rfl <;> rfl] at hP hD
        refine lv_iload_n hx hb dX3_strict_51 rfl (lv_at hl 0 rfl) ?_
        exact g_iret hx hb hr hlocks (Nat.le_of_ble_eq_true rfl) (Nat.le_of_ble_eq_true rfl) hK hP hD hS dX3_strict_52 (by rw [nI_clamp (n := r) (by omega), hzs.2.1] at c35; unfold opStrict; rw [if_pos (inRow_nI hr10), hxr, if_neg hzr, if_neg c35]; exact ⟨rfl, ma, 0, wl, fd, op, _, zs, ho, ba, se, lx, pe, lt, le, wa, ta, rfl, rfl, MS_strict hMS, hLc, hQ⟩)
    · rw [nI_clamp (n := r) (by omega), hmr.1] at c23
      have hzr : z r = 0 := Classical.not_not.mp (fun q => by rw [if_neg q] at c23; exact absurd c23 (by decide))
      refine lv_bipush (v := -2) hx hb dX3_strict_26 (by decide) ?_
      exact g_iret hx hb hr hlocks (Nat.le_of_ble_eq_true rfl) (Nat.le_of_ble_eq_true rfl) hK hP hD hS dX3_strict_28 (by unfold opStrict; rw [if_pos (inRow_nI hr10), hxr, if_pos hzr]; exact ⟨rfl, ⟨ma, 0, wl, fd, op, st, zs, ho, ba, se, lx, pe, lt, le, wa, ta, rfl, rfl, hMS, hLc, hQ⟩⟩)
  · simp only [e9, Classical.not_not] at c12
    refine lv_iconst (v := -1) hx hb dX3_strict_15 (by decide) ?_
    exact g_iret hx hb hr hlocks (Nat.le_of_ble_eq_true rfl) (Nat.le_of_ble_eq_true rfl) hK hP hD hS dX3_strict_16 (by unfold opStrict; rw [if_neg (fun h => by simp only [inRow, Int32.le_iff_toInt_le, Int32.lt_iff_toInt_lt, gl_m1, gl_0, gl_1, gl_2, gl_3, gl_5, gl_6, gl_8, gl_9, gl_10, gl_11, gl_20, gl_40, gl_60] at h c12; omega)]; exact ⟨rfl, ⟨ma, 0, wl, fd, op, st, zs, ho, ba, se, lx, pe, lt, le, wa, ta, rfl, rfl, hMS, hLc, hQ⟩⟩)
set_option maxHeartbeats 4000000 in
set_option maxRecDepth 100000 in
theorem m_seat (l : Launch) (D : va_G) (K : gCl) (ma : Nat → Nat) (op st zs ho ba se lx cn pe lt le wa ta : Nat → Int32) (th wl fd : Int32) (z : Nat → Nat) (sd : Nat → Int32) (ow : Nat → Nat → Int32) (B mh : Nat) (fl : Int32) (q : List Pty) (li : List Nat) (x i : Int32) (sz : Nat) (hz : ∀ i, i < 10 → z i ≤ 20) (hB40 : B ≤ 40) (hq8 : q.length ≤ 8) (hmh6 : mh ≤ 6) (hOR : OR z ow B) (hMS : MS z sd op st zs se ow) (hLc : isL lx li) (hQ : MQr pe lt le q) : gMi l yX3_seat wsX3_seat ({ frames := 7, cells := 0, slots := 0, locals := 260 } : Room) D vwCl (gT K) [.ref (ma 0), .int x, .int i] (mW K ma th (nI li.length) (nI B) (nI q.length) (nI mh) fl wl fd op st zs ho ba se lx cn pe lt le wa ta) sz (RM K (ma 0) (opSeat z sd ow cn B q li mh fl x i)) 0 0 := by
  refine g_of (cc := cX3_seat) (maxL := 3) (ret := (some .int)) (Qc := fun A => va_Qi (RM K (ma 0) (opSeat z sd ow cn B q li mh fl x i)) (gB D vwCl (gT K) A) A) (by decide) rfl (Nat.le_of_ble_eq_true rfl) ?_
  intro p e s m below meth c A ls I hl
  have I0 := I
  obtain ⟨hx, hb, hr, hml, hown, hts, hlocks, hnm, hA, hK, hP, hD, hS⟩ := I
  have hown : s.vm.findClass RX3 = some m.cls := hown
  have hl : lv_has ls 3 [(0, .ref (ma 0)), (1, .int x), (2, .int i)] := hl
  have hi_X3 : ∀ w ∈ u_ws RX3 TX3 21, w ∈ wsX3_seat := by decide +kernel
  refine lv_aload_n hx hb dX3_seat_0 rfl (lv_at hl 0 rfl) ?_
  refine lv_iconst (v := 0) hx hb dX3_seat_1 (by decide) ?_
  refine va_put (C := RX3) (T := TX3) (N := 21) (ci := 3) (ty := .int) hx hb hts hi_X3 tyX3 tyX3_ok nmX3 hown hK hP hD hS (0) (rfl) rfl 0 (by decide) (hts (.fieldLink RX3 50 "GroupSeatsModel" "thrown" "I") (by decide +kernel)) (fun _ h9 => h9) rfl (by decide +kernel) rfl rfl (Nat.le_of_ble_eq_true rfl) dX3_seat_2 (fun H locs hP hD hS => ?_)
  have hP : va_P D vwCl (mW K ma 0 (nI li.length) (nI B) (nI q.length) (nI mh) fl wl fd op st zs ho ba se lx cn pe lt le wa ta) H := hP
  have hD : va_D A (mW K ma 0 (nI li.length) (nI B) (nI q.length) (nI mh) fl wl fd op st zs ho ba se lx cn pe lt le wa ta) := hD
  refine lv_iload_n hx hb dX3_seat_5 rfl (lv_at hl 1 rfl) ?_
  refine lv_iconst (v := 0) hx hb dX3_seat_6 (by decide) ?_
  refine lv_bipush (v := 9) hx hb dX3_seat_7 (by decide) ?_
  refine g_calli (va_runS (As := [.int _, .int _, .int _]) (rest := []) ⟨hx, hb, hml, hown, hts⟩ (c_in l D K _ _ _ _ _) (va_cwS 3 hts gX3_seat_X3_in rfl rfl rfl (by decide +kernel) ⟨(Nat.le_of_ble_eq_true rfl), (Nat.le_of_ble_eq_true rfl)⟩) (g_preS hK hP hD) rfl rfl hl.1 rfl (lv_room (Nat.le_of_ble_eq_true rfl)) dX3_seat_9 ⟨Nat.zero_le _, Nat.zero_le _⟩) hD hS hA (fun r9 wv H locs hw hP hD hS => ?_)
  obtain ⟨ew, e9⟩ := hw
  rw [ew] at hP hD
  refine lv_if_eq (tgt := 19) hx hb dX3_seat_12 (by decide) (fun c12 => ?_) (fun c12 => ?_)
  · simp only [e9, Classical.not_not] at c12
    refine lv_iconst (v := -1) hx hb dX3_seat_19 (by decide) ?_
    exact g_iret hx hb hr hlocks (Nat.le_of_ble_eq_true rfl) (Nat.le_of_ble_eq_true rfl) hK hP hD hS dX3_seat_20 (by unfold opSeat; rw [if_neg (fun h => by simp only [inRow, Int32.le_iff_toInt_le, Int32.lt_iff_toInt_lt, gl_m1, gl_0, gl_1, gl_2, gl_3, gl_5, gl_6, gl_8, gl_9, gl_10, gl_11, gl_20, gl_40, gl_60] at h c12; omega)]; exact ⟨rfl, ⟨ma, 0, wl, fd, op, st, zs, ho, ba, se, lx, pe, lt, le, wa, ta, rfl, rfl, hMS, hLc, hQ⟩⟩)
  · simp only [e9, Classical.not_not] at c12
    refine lv_iload_n hx hb dX3_seat_15 rfl (lv_at hl 2 rfl) ?_
    refine lv_if_ge (tgt := 21) hx hb dX3_seat_16 (by decide) (fun c16 => ?_) (fun c16 => ?_)
    · obtain ⟨r, hr10, rfl⟩ := g_ix (n := 10) (M := 10) rfl ⟨c12.1, g_le9 c12.2⟩
      have hrz := hz r hr10
      have hxr : ixN (nI r) = r := ixN_nI (by omega)
      have hmr := hMS r hr10
      refine lv_aload_n hx hb dX3_seat_21 rfl (lv_at hl 0 rfl) ?_
      refine va_get (C := RX3) (T := TX3) (N := 21) (ci := 3) hx hb hts hi_X3 hown hK hP (0) (rfl) rfl 1 (by decide) (hts (.fieldLink RX3 7 "GroupSeatsModel" "isOpen" "[Z") (by decide +kernel)) (fun _ h9 => h9) rfl dX3_seat_22 ?_
      refine lv_iload_n hx hb dX3_seat_25 rfl (lv_at hl 1 rfl) ?_
      refine va_zald hx hb hK hP (1) 1 (rfl) rfl (vp_in_nI (show r < 10 by omega) (by decide)) dX3_seat_26 ?_
      refine lv_if_eq (tgt := 40) hx hb dX3_seat_27 (by decide) (fun c27 => ?_) (fun c27 => ?_)
      · rw [nI_clamp (n := r) (by omega), hmr.1] at c27
        have hzr : z r = 0 := Classical.not_not.mp (fun q => by rw [if_neg q] at c27; exact absurd c27 (by decide))
        refine lv_bipush (v := -2) hx hb dX3_seat_40 (by decide) ?_
        exact g_iret hx hb hr hlocks (Nat.le_of_ble_eq_true rfl) (Nat.le_of_ble_eq_true rfl) hK hP hD hS dX3_seat_42 (by unfold opSeat; rw [if_pos ⟨inRow_nI hr10, c16⟩, hxr, if_neg (fun h => by rw [hzr] at h; simp only [Int32.le_iff_toInt_le, Int32.lt_iff_toInt_lt, gl_m1, gl_0, gl_1, gl_2, gl_3, gl_5, gl_6, gl_8, gl_9, gl_10, gl_11, gl_20, gl_40, gl_60, show nI 0 = 0 from rfl] at h c16; omega)]; exact ⟨rfl, ⟨ma, 0, wl, fd, op, st, zs, ho, ba, se, lx, pe, lt, le, wa, ta, rfl, rfl, hMS, hLc, hQ⟩⟩)
      · rw [nI_clamp (n := r) (by omega), hmr.1] at c27
        have hzr : z r ≠ 0 := fun q => c27 (by rw [if_pos q])
        have hzs := hmr.2 hzr
        refine lv_iload_n hx hb dX3_seat_30 rfl (lv_at hl 2 rfl) ?_
        refine lv_aload_n hx hb dX3_seat_31 rfl (lv_at hl 0 rfl) ?_
        refine va_get (C := RX3) (T := TX3) (N := 21) (ci := 3) hx hb hts hi_X3 hown hK hP (0) (rfl) rfl 3 (by decide) (hts (.fieldLink RX3 16 "GroupSeatsModel" "size" "[I") (by decide +kernel)) (fun _ h9 => h9) rfl dX3_seat_32 ?_
        refine lv_iload_n hx hb dX3_seat_35 rfl (lv_at hl 1 rfl) ?_
        refine va_iald hx hb hK hP (3) 0 (rfl) rfl (vp_in_nI (show r < 10 by omega) (by decide)) dX3_seat_36 ?_
        refine lv_icmp_lt (tgt := 43) hx hb dX3_seat_37 (by decide) (fun c37 => ?_) (fun c37 => ?_)
        · rw [nI_clamp (n := r) (by omega), hzs.1] at c37
          obtain ⟨i1, hi1, rfl⟩ := g_ixn (n := z r) (by omega) ⟨c16, c37⟩
          refine lv_aload_n hx hb dX3_seat_43 rfl (lv_at hl 0 rfl) ?_
          refine va_get (C := RX3) (T := TX3) (N := 21) (ci := 3) hx hb hts hi_X3 hown hK hP (0) (rfl) rfl 6 (by decide) (hts (.fieldLink RX3 26 "GroupSeatsModel" "seats" "[I") (by decide +kernel)) (fun _ h9 => h9) rfl dX3_seat_44 ?_
          refine lv_bipush (v := 20) hx hb dX3_seat_47 (by decide) ?_
          refine lv_iload_n hx hb dX3_seat_49 rfl (lv_at hl 1 rfl) ?_
          refine lv_imul hx hb dX3_seat_50 ?_
          refine lv_iload_n hx hb dX3_seat_51 rfl (lv_at hl 2 rfl) ?_
          refine lv_iadd hx hb dX3_seat_52 ?_
          refine va_iald hx hb hK hP (6) 0 (rfl) rfl (in_20 hr10 (show i1 < 20 by omega)) dX3_seat_53 ?_
          refine lv_bipush (v := -8) hx hb dX3_seat_54 (by decide) ?_
          refine lv_icmp_ne (tgt := 64) hx hb dX3_seat_56 (by decide) (fun c56 => ?_) (fun c56 => ?_)
          · refine lv_aload_n hx hb dX3_seat_64 rfl (lv_at hl 0 rfl) ?_
            refine va_get (C := RX3) (T := TX3) (N := 21) (ci := 3) hx hb hts hi_X3 hown hK hP (0) (rfl) rfl 6 (by decide) (hts (.fieldLink RX3 26 "GroupSeatsModel" "seats" "[I") (by decide +kernel)) (fun _ h9 => h9) rfl dX3_seat_65 ?_
            refine lv_bipush (v := 20) hx hb dX3_seat_68 (by decide) ?_
            refine lv_iload_n hx hb dX3_seat_70 rfl (lv_at hl 1 rfl) ?_
            refine lv_imul hx hb dX3_seat_71 ?_
            refine lv_iload_n hx hb dX3_seat_72 rfl (lv_at hl 2 rfl) ?_
            refine lv_iadd hx hb dX3_seat_73 ?_
            refine va_iald hx hb hK hP (6) 0 (rfl) rfl (in_20 hr10 (show i1 < 20 by omega)) dX3_seat_74 ?_
            exact g_iret hx hb hr hlocks (Nat.le_of_ble_eq_true rfl) (Nat.le_of_ble_eq_true rfl) hK hP hD hS dX3_seat_75 (by rw [ix_20 hr10 (by omega)] at c56; unfold opSeat; rw [if_pos ⟨inRow_nI hr10, c16⟩, hxr, if_pos c37, ixN_nI (by omega), ← hzs.2.2, rowOf_in (by omega)]; exact ⟨by rw [ix_20 hr10 (by omega)], ⟨ma, 0, wl, fd, op, st, zs, ho, ba, se, lx, pe, lt, le, wa, ta, rfl, rfl, hMS, hLc, hQ⟩⟩)
          · refine lv_bipush (v := -8) hx hb dX3_seat_59 (by decide) ?_
            refine lv_goto (tgt := 75) hx hb dX3_seat_61 (by decide) ?_
            exact g_iret hx hb hr hlocks (Nat.le_of_ble_eq_true rfl) (Nat.le_of_ble_eq_true rfl) hK hP hD hS dX3_seat_75 (by rw [ix_20 hr10 (by omega)] at c56; unfold opSeat; rw [if_pos ⟨inRow_nI hr10, c16⟩, hxr, if_pos c37, ixN_nI (by omega), ← hzs.2.2, rowOf_in (by omega)]; exact ⟨c56.symm, ⟨ma, 0, wl, fd, op, st, zs, ho, ba, se, lx, pe, lt, le, wa, ta, rfl, rfl, hMS, hLc, hQ⟩⟩)
        · refine lv_bipush (v := -2) hx hb dX3_seat_40 (by decide) ?_
          exact g_iret hx hb hr hlocks (Nat.le_of_ble_eq_true rfl) (Nat.le_of_ble_eq_true rfl) hK hP hD hS dX3_seat_42 (by rw [nI_clamp (n := r) (by omega), hzs.1] at c37; unfold opSeat; rw [if_pos ⟨inRow_nI hr10, c16⟩, hxr, if_neg c37]; exact ⟨rfl, ⟨ma, 0, wl, fd, op, st, zs, ho, ba, se, lx, pe, lt, le, wa, ta, rfl, rfl, hMS, hLc, hQ⟩⟩)
    · refine lv_iconst (v := -1) hx hb dX3_seat_19 (by decide) ?_
      exact g_iret hx hb hr hlocks (Nat.le_of_ble_eq_true rfl) (Nat.le_of_ble_eq_true rfl) hK hP hD hS dX3_seat_20 (by unfold opSeat; rw [if_neg (fun h => by simp only [inRow, Int32.le_iff_toInt_le, Int32.lt_iff_toInt_lt, gl_m1, gl_0, gl_1, gl_2, gl_3, gl_5, gl_6, gl_8, gl_9, gl_10, gl_11, gl_20, gl_40, gl_60] at h c12 c16; omega)]; exact ⟨rfl, ⟨ma, 0, wl, fd, op, st, zs, ho, ba, se, lx, pe, lt, le, wa, ta, rfl, rfl, hMS, hLc, hQ⟩⟩)
set_option maxHeartbeats 4000000 in
set_option maxRecDepth 100000 in
theorem m_list (l : Launch) (D : va_G) (K : gCl) (ma : Nat → Nat) (op st zs ho ba se lx cn pe lt le wa ta : Nat → Int32) (th wl fd : Int32) (z : Nat → Nat) (sd : Nat → Int32) (ow : Nat → Nat → Int32) (B mh : Nat) (fl : Int32) (q : List Pty) (li : List Nat) (x : Int32) (sz : Nat) (hz : ∀ i, i < 10 → z i ≤ 20) (hB40 : B ≤ 40) (hq8 : q.length ≤ 8) (hmh6 : mh ≤ 6) (hOR : OR z ow B) (hMS : MS z sd op st zs se ow) (hLc : isL lx li) (hQ : MQr pe lt le q) : gMi l yX3_list wsX3_list ({ frames := 7, cells := 0, slots := 0, locals := 260 } : Room) D vwCl (gT K) [.ref (ma 0), .int x] (mW K ma th (nI li.length) (nI B) (nI q.length) (nI mh) fl wl fd op st zs ho ba se lx cn pe lt le wa ta) sz (RM K (ma 0) (opList z sd ow cn B q li mh fl x)) 0 0 := by
  refine g_of (cc := cX3_list) (maxL := 2) (ret := (some .int)) (Qc := fun A => va_Qi (RM K (ma 0) (opList z sd ow cn B q li mh fl x)) (gB D vwCl (gT K) A) A) (by decide) rfl (Nat.le_of_ble_eq_true rfl) ?_
  intro p e s m below meth c A ls I hl
  have I0 := I
  obtain ⟨hx, hb, hr, hml, hown, hts, hlocks, hnm, hA, hK, hP, hD, hS⟩ := I
  have hown : s.vm.findClass RX3 = some m.cls := hown
  have hl : lv_has ls 2 [(0, .ref (ma 0)), (1, .int x)] := hl
  have hi_X3 : ∀ w ∈ u_ws RX3 TX3 21, w ∈ wsX3_list := by decide +kernel
  have hLc6 := hLc.1
  refine lv_aload_n hx hb dX3_list_0 rfl (lv_at hl 0 rfl) ?_
  refine lv_iconst (v := 0) hx hb dX3_list_1 (by decide) ?_
  refine va_put (C := RX3) (T := TX3) (N := 21) (ci := 3) (ty := .int) hx hb hts hi_X3 tyX3 tyX3_ok nmX3 hown hK hP hD hS (0) (rfl) rfl 0 (by decide) (hts (.fieldLink RX3 50 "GroupSeatsModel" "thrown" "I") (by decide +kernel)) (fun _ h9 => h9) rfl (by decide +kernel) rfl rfl (Nat.le_of_ble_eq_true rfl) dX3_list_2 (fun H locs hP hD hS => ?_)
  have hP : va_P D vwCl (mW K ma 0 (nI li.length) (nI B) (nI q.length) (nI mh) fl wl fd op st zs ho ba se lx cn pe lt le wa ta) H := hP
  have hD : va_D A (mW K ma 0 (nI li.length) (nI B) (nI q.length) (nI mh) fl wl fd op st zs ho ba se lx cn pe lt le wa ta) := hD
  refine lv_iload_n hx hb dX3_list_5 rfl (lv_at hl 1 rfl) ?_
  refine lv_iconst (v := 0) hx hb dX3_list_6 (by decide) ?_
  refine lv_bipush (v := 11) hx hb dX3_list_7 (by decide) ?_
  refine g_calli (va_runS (As := [.int _, .int _, .int _]) (rest := []) ⟨hx, hb, hml, hown, hts⟩ (c_in l D K _ _ _ _ _) (va_cwS 3 hts gX3_list_X3_in rfl rfl rfl (by decide +kernel) ⟨(Nat.le_of_ble_eq_true rfl), (Nat.le_of_ble_eq_true rfl)⟩) (g_preS hK hP hD) rfl rfl hl.1 rfl (lv_room (Nat.le_of_ble_eq_true rfl)) dX3_list_9 ⟨Nat.zero_le _, Nat.zero_le _⟩) hD hS hA (fun r9 wv H locs hw hP hD hS => ?_)
  obtain ⟨ew, e9⟩ := hw
  rw [ew] at hP hD
  refine lv_if_ne (tgt := 17) hx hb dX3_list_12 (by decide) (fun c12 => ?_) (fun c12 => ?_)
  · simp only [e9, Classical.not_not] at c12
    refine lv_aload_n hx hb dX3_list_17 rfl (lv_at hl 0 rfl) ?_
    refine va_get (C := RX3) (T := TX3) (N := 21) (ci := 3) hx hb hts hi_X3 hown hK hP (0) (rfl) rfl 8 (by decide) (hts (.fieldLink RX3 105 "GroupSeatsModel" "listed" "I") (by decide +kernel)) (fun _ h9 => h9) rfl dX3_list_18 ?_
    refine lv_bipush (v := 6) hx hb dX3_list_21 (by decide) ?_
    refine lv_icmp_ne (tgt := 29) hx hb dX3_list_23 (by decide) (fun c23 => ?_) (fun c23 => ?_)
    · obtain ⟨i1, hi1, rfl⟩ := nI_of2 (n := 11) (M := 11) rfl (by have := c12.1; simp only [Int32.le_iff_toInt_le, Int32.lt_iff_toInt_lt, gl_m1, gl_0, gl_1, gl_2, gl_3, gl_5, gl_6, gl_8, gl_9, gl_10, gl_11, gl_20, gl_40, gl_60] at this ⊢; omega) c12.2
      have hl6 : li.length < 6 := by
        rcases Nat.lt_or_ge li.length 6 with q9 | q9
        · exact q9
        · exact absurd (by rw [show li.length = 6 by omega]; rfl) c23
      refine lv_aload_n hx hb dX3_list_29 rfl (lv_at hl 0 rfl) ?_
      refine va_get (C := RX3) (T := TX3) (N := 21) (ci := 3) hx hb hts hi_X3 hown hK hP (0) (rfl) rfl 7 (by decide) (hts (.fieldLink RX3 29 "GroupSeatsModel" "list" "[I") (by decide +kernel)) (fun _ h9 => h9) rfl dX3_list_30 ?_
      refine lv_aload_n hx hb dX3_list_33 rfl (lv_at hl 0 rfl) ?_
      refine va_get (C := RX3) (T := TX3) (N := 21) (ci := 3) hx hb hts hi_X3 hown hK hP (0) (rfl) rfl 8 (by decide) (hts (.fieldLink RX3 105 "GroupSeatsModel" "listed" "I") (by decide +kernel)) (fun _ h9 => h9) rfl dX3_list_34 ?_
      refine lv_iload_n hx hb dX3_list_37 rfl (lv_at hl 1 rfl) ?_
      refine va_iast hx hb hK hP hD hS (7) 0 (rfl) rfl (vp_in_nI hl6 (by decide)) dX3_list_38 (fun H locs hP hD hS => ?_)
      have hP : va_P D vwCl (mW K ma 0 (nI li.length) (nI B) (nI q.length) (nI mh) fl wl fd op st zs ho ba se (upd lx (nI li.length).toNatClampNeg (nI i1)) cn pe lt le wa ta) H := hP
      have hD : va_D A (mW K ma 0 (nI li.length) (nI B) (nI q.length) (nI mh) fl wl fd op st zs ho ba se (upd lx (nI li.length).toNatClampNeg (nI i1)) cn pe lt le wa ta) := hD
      rw [nI_clamp (n := li.length) (by omega)] at hP hD
      refine lv_aload_n hx hb dX3_list_39 rfl (lv_at hl 0 rfl) ?_
      refine lv_dup hx hb dX3_list_40 rfl ?_
      refine va_get (C := RX3) (T := TX3) (N := 21) (ci := 3) hx hb hts hi_X3 hown hK hP (0) (rfl) rfl 8 (by decide) (hts (.fieldLink RX3 105 "GroupSeatsModel" "listed" "I") (by decide +kernel)) (fun _ h9 => h9) rfl dX3_list_41 ?_
      refine lv_iconst (v := 1) hx hb dX3_list_44 (by decide) ?_
      refine lv_iadd hx hb dX3_list_45 ?_
      refine va_put (C := RX3) (T := TX3) (N := 21) (ci := 3) (ty := .int) hx hb hts hi_X3 tyX3 tyX3_ok nmX3 hown hK hP hD hS (0) (rfl) rfl 8 (by decide) (hts (.fieldLink RX3 105 "GroupSeatsModel" "listed" "I") (by decide +kernel)) (fun _ h9 => h9) rfl (by decide +kernel) rfl rfl (Nat.le_of_ble_eq_true rfl) dX3_list_46 (fun H locs hP hD hS => ?_)
      have hP : va_P D vwCl (mW K ma 0 (nI li.length + 1) (nI B) (nI q.length) (nI mh) fl wl fd op st zs ho ba se (upd lx li.length (nI i1)) cn pe lt le wa ta) H := hP
      have hD : va_D A (mW K ma 0 (nI li.length + 1) (nI B) (nI q.length) (nI mh) fl wl fd op st zs ho ba se (upd lx li.length (nI i1)) cn pe lt le wa ta) := hD
      rw [nI_1 li.length] at hP hD
      refine lv_aload_n hx hb dX3_list_49 rfl (lv_at hl 0 rfl) ?_
      refine va_get (C := RX3) (T := TX3) (N := 21) (ci := 3) hx hb hts hi_X3 hown hK hP (0) (rfl) rfl 8 (by decide) (hts (.fieldLink RX3 105 "GroupSeatsModel" "listed" "I") (by decide +kernel)) (fun _ h9 => h9) rfl dX3_list_50 ?_
      exact g_iret hx hb hr hlocks (Nat.le_of_ble_eq_true rfl) (Nat.le_of_ble_eq_true rfl) hK hP hD hS dX3_list_53 (by unfold opList; rw [if_pos c12, if_pos hl6, ixN_nI (by omega)]; exact ⟨rfl, ma, 0, wl, fd, op, st, zs, ho, ba, se, _, pe, lt, le, wa, ta, rfl, by rw [List.length_append]; rfl, hMS, isL_push hLc hl6 hi1, hQ⟩)
    · refine lv_bipush (v := -3) hx hb dX3_list_26 (by decide) ?_
      exact g_iret hx hb hr hlocks (Nat.le_of_ble_eq_true rfl) (Nat.le_of_ble_eq_true rfl) hK hP hD hS dX3_list_28 (by have h6 := (nI_eq (a := li.length) (b := 6) (by omega) (by decide)).mp c23; unfold opList; rw [if_pos c12, if_neg (by omega)]; exact ⟨rfl, ⟨ma, 0, wl, fd, op, st, zs, ho, ba, se, lx, pe, lt, le, wa, ta, rfl, rfl, hMS, hLc, hQ⟩⟩)
  · simp only [e9, Classical.not_not] at c12
    refine lv_iconst (v := -1) hx hb dX3_list_15 (by decide) ?_
    exact g_iret hx hb hr hlocks (Nat.le_of_ble_eq_true rfl) (Nat.le_of_ble_eq_true rfl) hK hP hD hS dX3_list_16 (by unfold opList; rw [if_neg (fun h => by simp only [inRow, Int32.le_iff_toInt_le, Int32.lt_iff_toInt_lt, gl_m1, gl_0, gl_1, gl_2, gl_3, gl_5, gl_6, gl_8, gl_9, gl_10, gl_11, gl_20, gl_40, gl_60] at h c12; omega)]; exact ⟨rfl, ⟨ma, 0, wl, fd, op, st, zs, ho, ba, se, lx, pe, lt, le, wa, ta, rfl, rfl, hMS, hLc, hQ⟩⟩)
set_option maxHeartbeats 4000000 in
set_option maxRecDepth 100000 in
theorem m_waiting (l : Launch) (D : va_G) (K : gCl) (ma : Nat → Nat) (op st zs ho ba se lx cn pe lt le wa ta : Nat → Int32) (th wl fd : Int32) (z : Nat → Nat) (sd : Nat → Int32) (ow : Nat → Nat → Int32) (B mh : Nat) (fl : Int32) (q : List Pty) (li : List Nat) (x : Int32) (sz : Nat) (hz : ∀ i, i < 10 → z i ≤ 20) (hB40 : B ≤ 40) (hq8 : q.length ≤ 8) (hmh6 : mh ≤ 6) (hOR : OR z ow B) (hMS : MS z sd op st zs se ow) (hLc : isL lx li) (hQ : MQr pe lt le q) : gMi l yX3_waiting wsX3_waiting ({ frames := 7, cells := 0, slots := 0, locals := 260 } : Room) D vwCl (gT K) [.ref (ma 0), .int x] (mW K ma th (nI li.length) (nI B) (nI q.length) (nI mh) fl wl fd op st zs ho ba se lx cn pe lt le wa ta) sz (RM K (ma 0) (opWaiting z sd ow cn B q li mh fl x)) 0 0 := by
  refine g_of (cc := cX3_waiting) (maxL := 2) (ret := (some .int)) (Qc := fun A => va_Qi (RM K (ma 0) (opWaiting z sd ow cn B q li mh fl x)) (gB D vwCl (gT K) A) A) (by decide) rfl (Nat.le_of_ble_eq_true rfl) ?_
  intro p e s m below meth c A ls I hl
  have I0 := I
  obtain ⟨hx, hb, hr, hml, hown, hts, hlocks, hnm, hA, hK, hP, hD, hS⟩ := I
  have hown : s.vm.findClass RX3 = some m.cls := hown
  have hl : lv_has ls 2 [(0, .ref (ma 0)), (1, .int x)] := hl
  have hi_X3 : ∀ w ∈ u_ws RX3 TX3 21, w ∈ wsX3_waiting := by decide +kernel
  refine lv_aload_n hx hb dX3_waiting_0 rfl (lv_at hl 0 rfl) ?_
  refine lv_iconst (v := 0) hx hb dX3_waiting_1 (by decide) ?_
  refine va_put (C := RX3) (T := TX3) (N := 21) (ci := 3) (ty := .int) hx hb hts hi_X3 tyX3 tyX3_ok nmX3 hown hK hP hD hS (0) (rfl) rfl 0 (by decide) (hts (.fieldLink RX3 50 "GroupSeatsModel" "thrown" "I") (by decide +kernel)) (fun _ h9 => h9) rfl (by decide +kernel) rfl rfl (Nat.le_of_ble_eq_true rfl) dX3_waiting_2 (fun H locs hP hD hS => ?_)
  have hP : va_P D vwCl (mW K ma 0 (nI li.length) (nI B) (nI q.length) (nI mh) fl wl fd op st zs ho ba se lx cn pe lt le wa ta) H := hP
  have hD : va_D A (mW K ma 0 (nI li.length) (nI B) (nI q.length) (nI mh) fl wl fd op st zs ho ba se lx cn pe lt le wa ta) := hD
  refine lv_iload_n hx hb dX3_waiting_5 rfl (lv_at hl 1 rfl) ?_
  refine lv_iconst (v := 0) hx hb dX3_waiting_6 (by decide) ?_
  refine lv_aload_n hx hb dX3_waiting_7 rfl (lv_at hl 0 rfl) ?_
  refine va_get (C := RX3) (T := TX3) (N := 21) (ci := 3) hx hb hts hi_X3 hown hK hP (0) (rfl) rfl 14 (by decide) (hts (.fieldLink RX3 84 "GroupSeatsModel" "waits" "I") (by decide +kernel)) (fun _ h9 => h9) rfl dX3_waiting_8 ?_
  refine lv_iconst (v := 1) hx hb dX3_waiting_11 (by decide) ?_
  refine lv_isub hx hb dX3_waiting_12 ?_
  refine g_calli (va_runS (As := [.int _, .int _, .int _]) (rest := []) ⟨hx, hb, hml, hown, hts⟩ (c_in l D K _ _ _ _ _) (va_cwS 3 hts gX3_waiting_X3_in rfl rfl rfl (by decide +kernel) ⟨(Nat.le_of_ble_eq_true rfl), (Nat.le_of_ble_eq_true rfl)⟩) (g_preS hK hP hD) rfl rfl hl.1 rfl (lv_room (Nat.le_of_ble_eq_true rfl)) dX3_waiting_13 ⟨Nat.zero_le _, Nat.zero_le _⟩) hD hS hA (fun r13 wv H locs hw hP hD hS => ?_)
  obtain ⟨ew, e13⟩ := hw
  rw [ew] at hP hD
  refine lv_if_eq (tgt := 28) hx hb dX3_waiting_16 (by decide) (fun c16 => ?_) (fun c16 => ?_)
  · simp only [e13, Classical.not_not] at c16
    refine lv_bipush (v := -8) hx hb dX3_waiting_28 (by decide) ?_
    exact g_iret hx hb hr hlocks (Nat.le_of_ble_eq_true rfl) (Nat.le_of_ble_eq_true rfl) hK hP hD hS dX3_waiting_30 (by rw [le_pred (by omega)] at c16; unfold opWaiting; rw [if_neg c16]; exact ⟨rfl, ⟨ma, 0, wl, fd, op, st, zs, ho, ba, se, lx, pe, lt, le, wa, ta, rfl, rfl, hMS, hLc, hQ⟩⟩)
  · simp only [e13, Classical.not_not] at c16
    rw [le_pred (by omega)] at c16
    obtain ⟨k0, hk0, rfl⟩ := g_ixn (n := q.length) (by omega) c16
    have hR := hQ k0 q[k0] (List.getElem?_eq_getElem hk0)
    have hxk : ixN (nI k0) = k0 := ixN_nI (by omega)
    have hgd : q.getD k0 (0, []) = q[k0] := by simp [List.getD_eq_getElem?_getD, hk0]
    refine lv_aload_n hx hb dX3_waiting_19 rfl (lv_at hl 0 rfl) ?_
    refine va_get (C := RX3) (T := TX3) (N := 21) (ci := 3) hx hb hts hi_X3 hown hK hP (0) (rfl) rfl 11 (by decide) (hts (.fieldLink RX3 35 "GroupSeatsModel" "people" "[I") (by decide +kernel)) (fun _ h9 => h9) rfl dX3_waiting_20 ?_
    refine lv_iload_n hx hb dX3_waiting_23 rfl (lv_at hl 1 rfl) ?_
    refine va_iald hx hb hK hP (9) 0 (rfl) rfl (vp_in_nI (show k0 < 8 by omega) (by decide)) dX3_waiting_24 ?_
    refine lv_goto (tgt := 30) hx hb dX3_waiting_25 (by decide) ?_
    exact g_iret hx hb hr hlocks (Nat.le_of_ble_eq_true rfl) (Nat.le_of_ble_eq_true rfl) hK hP hD hS dX3_waiting_30 (by unfold opWaiting; rw [if_pos c16, hxk, hgd, ← hR.1, nI_clamp (n := k0) (by omega)]; exact ⟨rfl, ⟨ma, 0, wl, fd, op, st, zs, ho, ba, se, lx, pe, lt, le, wa, ta, rfl, rfl, hMS, hLc, hQ⟩⟩)
set_option maxHeartbeats 4000000 in
set_option maxRecDepth 100000 in
theorem m_leave (l : Launch) (D : va_G) (K : gCl) (ma : Nat → Nat) (op st zs ho ba se lx cn pe lt le wa ta : Nat → Int32) (th wl fd : Int32) (z : Nat → Nat) (sd : Nat → Int32) (ow : Nat → Nat → Int32) (B mh : Nat) (fl : Int32) (q : List Pty) (li : List Nat) (x : Int32) (sz : Nat) (hz : ∀ i, i < 10 → z i ≤ 20) (hB40 : B ≤ 40) (hq8 : q.length ≤ 8) (hmh6 : mh ≤ 6) (hOR : OR z ow B) (hMS : MS z sd op st zs se ow) (hLc : isL lx li) (hQ : MQr pe lt le q) : gMi l yX3_leave wsX3_leave ({ frames := 7, cells := 0, slots := 0, locals := 260 } : Room) D vwCl (gT K) [.ref (ma 0), .int x] (mW K ma th (nI li.length) (nI B) (nI q.length) (nI mh) fl wl fd op st zs ho ba se lx cn pe lt le wa ta) sz (RM K (ma 0) (opLeave z sd ow cn B q li mh fl x)) 0 0 := by
  refine g_of (cc := cX3_leave) (maxL := 3) (ret := (some .int)) (Qc := fun A => va_Qi (RM K (ma 0) (opLeave z sd ow cn B q li mh fl x)) (gB D vwCl (gT K) A) A) (by decide) rfl (Nat.le_of_ble_eq_true rfl) ?_
  intro p e s m below meth c A ls I hl
  have I0 := I
  obtain ⟨hx, hb, hr, hml, hown, hts, hlocks, hnm, hA, hK, hP, hD, hS⟩ := I
  have hown : s.vm.findClass RX3 = some m.cls := hown
  have hl : lv_has ls 3 [(0, .ref (ma 0)), (1, .int x)] := hl
  have hi_X3 : ∀ w ∈ u_ws RX3 TX3 21, w ∈ wsX3_leave := by decide +kernel
  refine lv_aload_n hx hb dX3_leave_0 rfl (lv_at hl 0 rfl) ?_
  refine lv_iconst (v := 0) hx hb dX3_leave_1 (by decide) ?_
  refine va_put (C := RX3) (T := TX3) (N := 21) (ci := 3) (ty := .int) hx hb hts hi_X3 tyX3 tyX3_ok nmX3 hown hK hP hD hS (0) (rfl) rfl 0 (by decide) (hts (.fieldLink RX3 50 "GroupSeatsModel" "thrown" "I") (by decide +kernel)) (fun _ h9 => h9) rfl (by decide +kernel) rfl rfl (Nat.le_of_ble_eq_true rfl) dX3_leave_2 (fun H locs hP hD hS => ?_)
  have hP : va_P D vwCl (mW K ma 0 (nI li.length) (nI B) (nI q.length) (nI mh) fl wl fd op st zs ho ba se lx cn pe lt le wa ta) H := hP
  have hD : va_D A (mW K ma 0 (nI li.length) (nI B) (nI q.length) (nI mh) fl wl fd op st zs ho ba se lx cn pe lt le wa ta) := hD
  refine lv_iload_n hx hb dX3_leave_5 rfl (lv_at hl 1 rfl) ?_
  refine lv_iconst (v := 0) hx hb dX3_leave_6 (by decide) ?_
  refine lv_aload_n hx hb dX3_leave_7 rfl (lv_at hl 0 rfl) ?_
  refine va_get (C := RX3) (T := TX3) (N := 21) (ci := 3) hx hb hts hi_X3 hown hK hP (0) (rfl) rfl 14 (by decide) (hts (.fieldLink RX3 84 "GroupSeatsModel" "waits" "I") (by decide +kernel)) (fun _ h9 => h9) rfl dX3_leave_8 ?_
  refine lv_iconst (v := 1) hx hb dX3_leave_11 (by decide) ?_
  refine lv_isub hx hb dX3_leave_12 ?_
  refine g_calli (va_runS (As := [.int _, .int _, .int _]) (rest := []) ⟨hx, hb, hml, hown, hts⟩ (c_in l D K _ _ _ _ _) (va_cwS 3 hts gX3_leave_X3_in rfl rfl rfl (by decide +kernel) ⟨(Nat.le_of_ble_eq_true rfl), (Nat.le_of_ble_eq_true rfl)⟩) (g_preS hK hP hD) rfl rfl hl.1 rfl (lv_room (Nat.le_of_ble_eq_true rfl)) dX3_leave_13 ⟨Nat.zero_le _, Nat.zero_le _⟩) hD hS hA (fun r13 wv H locs hw hP hD hS => ?_)
  obtain ⟨ew, e13⟩ := hw
  rw [ew] at hP hD
  refine lv_if_ne (tgt := 21) hx hb dX3_leave_16 (by decide) (fun c16 => ?_) (fun c16 => ?_)
  · simp only [e13, Classical.not_not] at c16
    rw [le_pred (by omega)] at c16
    obtain ⟨k0, hk0, rfl⟩ := g_ixn (n := q.length) (by omega) c16
    have hR := hQ k0 q[k0] (List.getElem?_eq_getElem hk0)
    have hxk : ixN (nI k0) = k0 := ixN_nI (by omega)
    have hgd : q.getD k0 (0, []) = q[k0] := by simp [List.getD_eq_getElem?_getD, hk0]
    refine lv_aload_n hx hb dX3_leave_21 rfl (lv_at hl 0 rfl) ?_
    refine va_get (C := RX3) (T := TX3) (N := 21) (ci := 3) hx hb hts hi_X3 hown hK hP (0) (rfl) rfl 11 (by decide) (hts (.fieldLink RX3 35 "GroupSeatsModel" "people" "[I") (by decide +kernel)) (fun _ h9 => h9) rfl dX3_leave_22 ?_
    refine lv_iload_n hx hb dX3_leave_25 rfl (lv_at hl 1 rfl) ?_
    refine va_iald hx hb hK hP (9) 0 (rfl) rfl (vp_in_nI (show k0 < 8 by omega) (by decide)) dX3_leave_26 ?_
    refine lv_istore_n (lv' := [(2, .int _), (0, .ref _), (1, .int _)]) hx hb dX3_leave_27 rfl hl (by decide) rfl (fun ls hl => ?_)
    refine lv_aload_n hx hb dX3_leave_28 rfl (lv_at hl 1 rfl) ?_
    refine lv_iload_n hx hb dX3_leave_29 rfl (lv_at hl 2 rfl) ?_
    refine g_callv (va_runV (As := [.int _]) (rest := []) ⟨hx, hb, hml, hown, hts⟩ (m_removed l D K ma op st zs ho ba se lx cn pe lt le wa ta 0 (nI li.length) (nI B) (nI mh) fl wl fd q.length k0 _ hq8 hk0) (cwV 1 hts gX3_leave_X3_removed rfl rfl rfl (by decide +kernel) ⟨(Nat.le_of_ble_eq_true rfl), (Nat.le_of_ble_eq_true rfl)⟩) (g_preV hK hP hD (ci := 3) (q0 := 0) rfl (rfl)) rfl rfl hl.1 rfl (lv_room (Nat.le_of_ble_eq_true rfl)) dX3_leave_30 ⟨Nat.zero_le _, Nat.zero_le _⟩) hD hS hA (fun wv H locs hw hP hD hS => ?_)
    rw [hw] at hP hD
    refine lv_iload_n hx hb dX3_leave_33 rfl (lv_at hl 0 rfl) ?_
    exact g_iret hx hb hr hlocks (Nat.le_of_ble_eq_true rfl) (Nat.le_of_ble_eq_true rfl) hK hP hD hS dX3_leave_34 (by unfold opLeave; rw [if_pos c16, hxk, hgd, ← hR.1, nI_clamp (n := k0) (by omega)]; exact ⟨rfl, ma, 0, wl, fd, op, st, zs, ho, ba, se, lx, _, _, _, wa, ta, rfl, by rw [List.length_eraseIdx_of_lt hk0], hMS, hLc, MQr_erase hk0 hQ⟩)
  · simp only [e13, Classical.not_not] at c16
    refine lv_iconst (v := -1) hx hb dX3_leave_19 (by decide) ?_
    exact g_iret hx hb hr hlocks (Nat.le_of_ble_eq_true rfl) (Nat.le_of_ble_eq_true rfl) hK hP hD hS dX3_leave_20 (by rw [le_pred (by omega)] at c16; unfold opLeave; rw [if_neg c16]; exact ⟨rfl, ⟨ma, 0, wl, fd, op, st, zs, ho, ba, se, lx, pe, lt, le, wa, ta, rfl, rfl, hMS, hLc, hQ⟩⟩)
set_option maxHeartbeats 4000000 in
set_option maxRecDepth 100000 in
theorem lp_has {p : Program} {l : Launch} {e : Env} {s : State} {m : MethodId} {args : Array Value} {below : List Frame} {meth : Method} {c : Code} {A : Nat → Prop} {D : va_G} {K : gCl} {ws0 : va_W} {rm : Room} {ma : Nat → Nat} {op st zs ho ba se lx cn pe lt le wa ta : Nat → Int32} {th ll B wt mh fl wl fd : Int32} {z : Nat → Nat} {sd : Nat → Int32} {ow : Nat → Nat → Int32} {r : Nat} {b : Int32} (hr10 : r < 10) (hrz : z r ≤ 20) (hzr : z r ≠ 0) (hmr : op r = 1) (hzs : zs r = nI (z r) ∧ st r = sd r ∧ rowOf se r = ow r)
    (I : gIn p s m meth c A yX3_has wsX3_has cX3_has 5 (some .int) args D vwCl (gT K) ws0)  :
    ∀ (k : Nat) (i : Nat) (H : Heap) (locs : List Loc), i + k = z r → va_P D vwCl (mW K ma th ll B wt mh fl wl fd op st zs ho ba se lx cn pe lt le wa ta) H → va_D A (mW K ma th ll B wt mh fl wl fd op st zs ho ba se lx cn pe lt le wa ta) → va_S A s.heap H locs →
    ∀ (ls : Array Slot), lv_has ls 5 [(4, .int (nI i)), (3, .int (nI (cntV (ow r) b i))), (0, .ref (ma 0)), (1, .int b), (2, .int (nI r))] →
    W p l e rm s m args below meth c H locs 0 0 (MQ below (va_Qi (fun r1 w1 => w1 = mW K ma th ll B wt mh fl wl fd op st zs ho ba se lx cn pe lt le wa ta ∧ r1 = nI (cntV (ow r) b (z r))) (gB D vwCl (gT K) A) A) args s 0 0 A) (F0 m 36 ls []) := by
  have I0 := I
  obtain ⟨hx, hb, hr, hml, hown, hts, hlocks, hnm, hA, hK, -, -, -⟩ := I
  have hown : s.vm.findClass RX3 = some m.cls := hown
  have hi_X3 : ∀ w ∈ u_ws RX3 TX3 21, w ∈ wsX3_has := by decide +kernel
  intro k
  induction k with
  | zero =>
    intro i H locs hi hP hD hS ls hl
    have hiz : i = z r := by omega
    subst hiz
    refine lv_aload_n hx hb dX3_has_36 rfl (lv_at hl 2 rfl) ?_
    refine va_get (C := RX3) (T := TX3) (N := 21) (ci := 3) hx hb hts hi_X3 hown hK hP (0) (rfl) rfl 1 (by decide) (hts (.fieldLink RX3 7 "GroupSeatsModel" "isOpen" "[Z") (by decide +kernel)) (fun _ h9 => h9) rfl dX3_has_37 ?_
    refine lv_iload_n hx hb dX3_has_40 rfl (lv_at hl 4 rfl) ?_
    refine va_zald hx hb hK hP (1) 1 (rfl) rfl (vp_in_nI (show r < 10 by omega) (by decide)) dX3_has_41 ?_
    rw [nI_clamp (n := r) (by omega), hmr]
    refine lv_if_eq (tgt := 86) hx hb dX3_has_42 (by decide) (fun c42 => ?_) (fun c42 => ?_)
    · exact absurd c42 (by decide)
    · refine lv_iload hx hb dX3_has_45 (lv_at hl 0 rfl) ?_
      refine lv_aload_n hx hb dX3_has_47 rfl (lv_at hl 2 rfl) ?_
      refine va_get (C := RX3) (T := TX3) (N := 21) (ci := 3) hx hb hts hi_X3 hown hK hP (0) (rfl) rfl 3 (by decide) (hts (.fieldLink RX3 16 "GroupSeatsModel" "size" "[I") (by decide +kernel)) (fun _ h9 => h9) rfl dX3_has_48 ?_
      refine lv_iload_n hx hb dX3_has_51 rfl (lv_at hl 4 rfl) ?_
      refine va_iald hx hb hK hP (3) 0 (rfl) rfl (vp_in_nI (show r < 10 by omega) (by decide)) dX3_has_52 ?_
      rw [nI_clamp (n := r) (by omega), hzs.1]
      refine lv_icmp_ge (tgt := 86) hx hb dX3_has_53 (by decide) (fun c53 => ?_) (fun c53 => ?_)
      · refine lv_iload_n hx hb dX3_has_86 rfl (lv_at hl 1 rfl) ?_
        exact g_iret hx hb hr hlocks (Nat.le_of_ble_eq_true rfl) (Nat.le_of_ble_eq_true rfl) hK hP hD hS dX3_has_87 (⟨rfl, rfl⟩)
      · exact absurd (nI_le (by omega) (by omega)) c53
  | succ k ih =>
    intro i H locs hi hP hD hS ls hl
    refine lv_aload_n hx hb dX3_has_36 rfl (lv_at hl 2 rfl) ?_
    refine va_get (C := RX3) (T := TX3) (N := 21) (ci := 3) hx hb hts hi_X3 hown hK hP (0) (rfl) rfl 1 (by decide) (hts (.fieldLink RX3 7 "GroupSeatsModel" "isOpen" "[Z") (by decide +kernel)) (fun _ h9 => h9) rfl dX3_has_37 ?_
    refine lv_iload_n hx hb dX3_has_40 rfl (lv_at hl 4 rfl) ?_
    refine va_zald hx hb hK hP (1) 1 (rfl) rfl (vp_in_nI (show r < 10 by omega) (by decide)) dX3_has_41 ?_
    rw [nI_clamp (n := r) (by omega), hmr]
    refine lv_if_eq (tgt := 86) hx hb dX3_has_42 (by decide) (fun c42 => ?_) (fun c42 => ?_)
    · exact absurd c42 (by decide)
    · refine lv_iload hx hb dX3_has_45 (lv_at hl 0 rfl) ?_
      refine lv_aload_n hx hb dX3_has_47 rfl (lv_at hl 2 rfl) ?_
      refine va_get (C := RX3) (T := TX3) (N := 21) (ci := 3) hx hb hts hi_X3 hown hK hP (0) (rfl) rfl 3 (by decide) (hts (.fieldLink RX3 16 "GroupSeatsModel" "size" "[I") (by decide +kernel)) (fun _ h9 => h9) rfl dX3_has_48 ?_
      refine lv_iload_n hx hb dX3_has_51 rfl (lv_at hl 4 rfl) ?_
      refine va_iald hx hb hK hP (3) 0 (rfl) rfl (vp_in_nI (show r < 10 by omega) (by decide)) dX3_has_52 ?_
      rw [nI_clamp (n := r) (by omega), hzs.1]
      refine lv_icmp_ge (tgt := 86) hx hb dX3_has_53 (by decide) (fun c53 => ?_) (fun c53 => ?_)
      · exact absurd c53 (nI_ge (by omega) (by omega))
      · refine lv_iload_n hx hb dX3_has_56 rfl (lv_at hl 1 rfl) ?_
        refine lv_aload_n hx hb dX3_has_57 rfl (lv_at hl 2 rfl) ?_
        refine va_get (C := RX3) (T := TX3) (N := 21) (ci := 3) hx hb hts hi_X3 hown hK hP (0) (rfl) rfl 6 (by decide) (hts (.fieldLink RX3 26 "GroupSeatsModel" "seats" "[I") (by decide +kernel)) (fun _ h9 => h9) rfl dX3_has_58 ?_
        refine lv_bipush (v := 20) hx hb dX3_has_61 (by decide) ?_
        refine lv_iload_n hx hb dX3_has_63 rfl (lv_at hl 4 rfl) ?_
        refine lv_imul hx hb dX3_has_64 ?_
        refine lv_iload hx hb dX3_has_65 (lv_at hl 0 rfl) ?_
        refine lv_iadd hx hb dX3_has_67 ?_
        refine va_iald hx hb hK hP (6) 0 (rfl) rfl (in_20 hr10 (show i < 20 by omega)) dX3_has_68 ?_
        refine lv_iload_n hx hb dX3_has_69 rfl (lv_at hl 3 rfl) ?_
        refine lv_icmp_ne (tgt := 77) hx hb dX3_has_70 (by decide) (fun c70 => ?_) (fun c70 => ?_)
        · refine lv_iconst (v := 0) hx hb dX3_has_77 (by decide) ?_
          refine lv_iadd hx hb dX3_has_78 ?_
          refine lv_istore_n (lv' := [(3, .int _), (4, .int _), (0, .ref _), (1, .int _), (2, .int _)]) hx hb dX3_has_79 rfl hl (by decide) rfl (fun ls hl => ?_)
          refine lv_iinc (lv' := [(4, .int _), (3, .int _), (0, .ref _), (1, .int _), (2, .int _)]) hx hb dX3_has_80 hl (k := 1) rfl rfl (by decide) rfl (fun ls hl => ?_)
          refine lv_goto (tgt := 36) hx hb dX3_has_83 (by decide) ?_
          rw [ix_20 hr10 (by omega), ← rowOf_in (g := se) (r := r) (show i < 20 by omega), hzs.2.2] at c70
          rw [g_inc] at hl
          have e1 : cntV (ow r) b (i + 1) = cntV (ow r) b i := by simp [cntV, c70]
          rw [Int32.add_zero, ← e1] at hl
          exact ih (i + 1) H locs (by omega) hP hD hS ls (lv_sub hl [0, 1, 2, 3, 4] rfl)
        · refine lv_iconst (v := 1) hx hb dX3_has_73 (by decide) ?_
          refine lv_goto (tgt := 78) hx hb dX3_has_74 (by decide) ?_
          refine lv_iadd hx hb dX3_has_78 ?_
          refine lv_istore_n (lv' := [(3, .int _), (4, .int _), (0, .ref _), (1, .int _), (2, .int _)]) hx hb dX3_has_79 rfl hl (by decide) rfl (fun ls hl => ?_)
          refine lv_iinc (lv' := [(4, .int _), (3, .int _), (0, .ref _), (1, .int _), (2, .int _)]) hx hb dX3_has_80 hl (k := 1) rfl rfl (by decide) rfl (fun ls hl => ?_)
          refine lv_goto (tgt := 36) hx hb dX3_has_83 (by decide) ?_
          rw [ix_20 hr10 (by omega), ← rowOf_in (g := se) (r := r) (show i < 20 by omega), hzs.2.2] at c70
          rw [g_inc] at hl
          have e1 : cntV (ow r) b (i + 1) = cntV (ow r) b i + 1 := by simp [cntV, c70]
          rw [nI_1, ← e1] at hl
          exact ih (i + 1) H locs (by omega) hP hD hS ls (lv_sub hl [0, 1, 2, 3, 4] rfl)
/-- a weaker end -/
theorem g_mono {p : Program} {l : Launch} {e : Env} {R : Room} {s : State} {m : MethodId} {args : Array Value} {below : List Frame} {meth : Method} {c : Code} {H : Heap} {locs : List Loc} {cells slots mc ms : Nat} {post post' : Int32 → va_W → Prop} {B : va_W → State → Prop} {A : Nat → Prop} {g : JFrame} (h : ∀ r w, post r w → post' r w) (k : W p l e R s m args below meth c H locs cells slots (MQ below (va_Qi post B A) args s mc ms A) g) : W p l e R s m args below meth c H locs cells slots (MQ below (va_Qi post' B A) args s mc ms A) g := by
  intro T hT X
  obtain ⟨t, a1, o, b1, b2, ⟨⟨r, u, b3, b4, b5⟩, b6⟩, b7⟩ := k T hT X
  exact ⟨t, a1, o, b1, b2, ⟨⟨r, u, b3, h r u b4, b5⟩, b6⟩, b7⟩
set_option maxHeartbeats 4000000 in
set_option maxRecDepth 100000 in
theorem m_has (l : Launch) (D : va_G) (K : gCl) (ma : Nat → Nat) (op st zs ho ba se lx cn pe lt le wa ta : Nat → Int32) (th wl fd : Int32) (z : Nat → Nat) (sd : Nat → Int32) (ow : Nat → Nat → Int32) (B mh : Nat) (fl : Int32) (q : List Pty) (li : List Nat) (b x : Int32) (sz : Nat) (hz : ∀ i, i < 10 → z i ≤ 20) (hB40 : B ≤ 40) (hq8 : q.length ≤ 8) (hmh6 : mh ≤ 6) (hOR : OR z ow B) (hMS : MS z sd op st zs se ow) (hLc : isL lx li) (hQ : MQr pe lt le q) : gMi l yX3_has wsX3_has ({ frames := 7, cells := 0, slots := 0, locals := 260 } : Room) D vwCl (gT K) [.ref (ma 0), .int b, .int x] (mW K ma th (nI li.length) (nI B) (nI q.length) (nI mh) fl wl fd op st zs ho ba se lx cn pe lt le wa ta) sz (RM K (ma 0) (opHas z sd ow cn B q li mh fl b x)) 0 0 := by
  refine g_of (cc := cX3_has) (maxL := 5) (ret := (some .int)) (Qc := fun A => va_Qi (RM K (ma 0) (opHas z sd ow cn B q li mh fl b x)) (gB D vwCl (gT K) A) A) (by decide) rfl (Nat.le_of_ble_eq_true rfl) ?_
  intro p e s m below meth c A ls I hl
  have I0 := I
  obtain ⟨hx, hb, hr, hml, hown, hts, hlocks, hnm, hA, hK, hP, hD, hS⟩ := I
  have hown : s.vm.findClass RX3 = some m.cls := hown
  have hl : lv_has ls 5 [(0, .ref (ma 0)), (1, .int b), (2, .int x)] := hl
  have hi_X3 : ∀ w ∈ u_ws RX3 TX3 21, w ∈ wsX3_has := by decide +kernel
  refine lv_aload_n hx hb dX3_has_0 rfl (lv_at hl 0 rfl) ?_
  refine lv_iconst (v := 0) hx hb dX3_has_1 (by decide) ?_
  refine va_put (C := RX3) (T := TX3) (N := 21) (ci := 3) (ty := .int) hx hb hts hi_X3 tyX3 tyX3_ok nmX3 hown hK hP hD hS (0) (rfl) rfl 0 (by decide) (hts (.fieldLink RX3 50 "GroupSeatsModel" "thrown" "I") (by decide +kernel)) (fun _ h9 => h9) rfl (by decide +kernel) rfl rfl (Nat.le_of_ble_eq_true rfl) dX3_has_2 (fun H locs hP hD hS => ?_)
  have hP : va_P D vwCl (mW K ma 0 (nI li.length) (nI B) (nI q.length) (nI mh) fl wl fd op st zs ho ba se lx cn pe lt le wa ta) H := hP
  have hD : va_D A (mW K ma 0 (nI li.length) (nI B) (nI q.length) (nI mh) fl wl fd op st zs ho ba se lx cn pe lt le wa ta) := hD
  refine lv_iload_n hx hb dX3_has_5 rfl (lv_at hl 1 rfl) ?_
  refine lv_iconst (v := 0) hx hb dX3_has_6 (by decide) ?_
  refine lv_aload_n hx hb dX3_has_7 rfl (lv_at hl 0 rfl) ?_
  refine va_get (C := RX3) (T := TX3) (N := 21) (ci := 3) hx hb hts hi_X3 hown hK hP (0) (rfl) rfl 9 (by decide) (hts (.fieldLink RX3 54 "GroupSeatsModel" "bookings" "I") (by decide +kernel)) (fun _ h9 => h9) rfl dX3_has_8 ?_
  refine lv_iconst (v := 1) hx hb dX3_has_11 (by decide) ?_
  refine lv_isub hx hb dX3_has_12 ?_
  refine g_calli (va_runS (As := [.int _, .int _, .int _]) (rest := []) ⟨hx, hb, hml, hown, hts⟩ (c_in l D K _ _ _ _ _) (va_cwS 3 hts gX3_has_X3_in rfl rfl rfl (by decide +kernel) ⟨(Nat.le_of_ble_eq_true rfl), (Nat.le_of_ble_eq_true rfl)⟩) (g_preS hK hP hD) rfl rfl hl.1 rfl (lv_room (Nat.le_of_ble_eq_true rfl)) dX3_has_13 ⟨Nat.zero_le _, Nat.zero_le _⟩) hD hS hA (fun r13 wv H locs hw hP hD hS => ?_)
  obtain ⟨ew, e13⟩ := hw
  rw [ew] at hP hD
  refine lv_if_eq (tgt := 29) hx hb dX3_has_16 (by decide) (fun c16 => ?_) (fun c16 => ?_)
  · simp only [e13, Classical.not_not] at c16
    refine lv_iconst (v := -1) hx hb dX3_has_29 (by decide) ?_
    exact g_iret hx hb hr hlocks (Nat.le_of_ble_eq_true rfl) (Nat.le_of_ble_eq_true rfl) hK hP hD hS dX3_has_30 (by unfold opHas; rw [if_neg (fun h => c16 (by rw [le_pred (by omega)]; exact h.1))]; exact ⟨rfl, ⟨ma, 0, wl, fd, op, st, zs, ho, ba, se, lx, pe, lt, le, wa, ta, rfl, rfl, hMS, hLc, hQ⟩⟩)
  · simp only [e13, Classical.not_not] at c16
    refine lv_iload_n hx hb dX3_has_19 rfl (lv_at hl 2 rfl) ?_
    refine lv_iconst (v := 0) hx hb dX3_has_20 (by decide) ?_
    refine lv_bipush (v := 9) hx hb dX3_has_21 (by decide) ?_
    refine g_calli (va_runS (As := [.int _, .int _, .int _]) (rest := []) ⟨hx, hb, hml, hown, hts⟩ (c_in l D K _ _ _ _ _) (va_cwS 3 hts gX3_has_X3_in rfl rfl rfl (by decide +kernel) ⟨(Nat.le_of_ble_eq_true rfl), (Nat.le_of_ble_eq_true rfl)⟩) (g_preS hK hP hD) rfl rfl hl.1 rfl (lv_room (Nat.le_of_ble_eq_true rfl)) dX3_has_23 ⟨Nat.zero_le _, Nat.zero_le _⟩) hD hS hA (fun r23 wv H locs hw hP hD hS => ?_)
    obtain ⟨ew, e23⟩ := hw
    rw [ew] at hP hD
    refine lv_if_ne (tgt := 31) hx hb dX3_has_26 (by decide) (fun c26 => ?_) (fun c26 => ?_)
    · simp only [e23, Classical.not_not] at c26
      obtain ⟨r, hr10, rfl⟩ := g_ix (n := 10) (M := 10) rfl ⟨c26.1, g_le9 c26.2⟩
      have hrz := hz r hr10
      have hxr : ixN (nI r) = r := ixN_nI (by omega)
      have hmr := hMS r hr10
      refine lv_iconst (v := 0) hx hb dX3_has_31 (by decide) ?_
      refine lv_istore_n (lv' := [(3, .int _), (0, .ref _), (1, .int _), (2, .int _)]) hx hb dX3_has_32 rfl hl (by decide) rfl (fun ls hl => ?_)
      refine lv_iconst (v := 0) hx hb dX3_has_33 (by decide) ?_
      refine lv_istore (lv' := [(4, .int _), (3, .int _), (0, .ref _), (1, .int _), (2, .int _)]) hx hb dX3_has_34 hl (by decide) rfl (fun ls hl => ?_)
      by_cases hzr : z r = 0
      · refine lv_aload_n hx hb dX3_has_36 rfl (lv_at hl 2 rfl) ?_
        refine va_get (C := RX3) (T := TX3) (N := 21) (ci := 3) hx hb hts hi_X3 hown hK hP (0) (rfl) rfl 1 (by decide) (hts (.fieldLink RX3 7 "GroupSeatsModel" "isOpen" "[Z") (by decide +kernel)) (fun _ h9 => h9) rfl dX3_has_37 ?_
        refine lv_iload_n hx hb dX3_has_40 rfl (lv_at hl 4 rfl) ?_
        refine va_zald hx hb hK hP (1) 1 (rfl) rfl (vp_in_nI (show r < 10 by omega) (by decide)) dX3_has_41 ?_
        refine lv_if_eq (tgt := 86) hx hb dX3_has_42 (by decide) (fun c42 => ?_) (fun c42 => ?_)
        · refine lv_iload_n hx hb dX3_has_86 rfl (lv_at hl 1 rfl) ?_
          exact g_iret hx hb hr hlocks (Nat.le_of_ble_eq_true rfl) (Nat.le_of_ble_eq_true rfl) hK hP hD hS dX3_has_87 (by have hc : (0 ≤ b ∧ b < nI B) ∧ inRow (nI r) := ⟨(by rw [le_pred (by omega)] at c16; exact c16), inRow_nI hr10⟩; unfold opHas; rw [if_pos hc, hxr, hzr]; exact ⟨rfl, ⟨ma, 0, wl, fd, op, st, zs, ho, ba, se, lx, pe, lt, le, wa, ta, rfl, rfl, hMS, hLc, hQ⟩⟩)
        · exact absurd (by rw [nI_clamp (n := r) (by omega), hmr.1, if_pos hzr]) c42
      · have hzs := hmr.2 hzr
        have ho1 : op r = 1 := by rw [hmr.1, if_neg hzr]
        have hc : (0 ≤ b ∧ b < nI B) ∧ inRow (nI r) := ⟨by rw [le_pred (by omega)] at c16; exact c16, inRow_nI hr10⟩
        have key := lp_has (p := p) (l := l) (e := e) (below := below) (b := b) hr10 hrz hzr ho1 hzs I0 (rm := { frames := 7, cells := 0, slots := 0, locals := 260 }) (z r) 0 _ _ (by omega) hP hD hS ls (lv_sub hl [0, 1, 2, 3, 4] rfl)
        refine g_mono (fun r1 w1 h => ?_) key
        obtain ⟨h1, h2⟩ := h
        subst h1; subst h2
        unfold opHas; rw [if_pos hc, hxr]; exact ⟨rfl, ⟨ma, 0, wl, fd, op, st, zs, ho, ba, se, lx, pe, lt, le, wa, ta, rfl, rfl, hMS, hLc, hQ⟩⟩
    · simp only [e23, Classical.not_not] at c26
      refine lv_iconst (v := -1) hx hb dX3_has_29 (by decide) ?_
      exact g_iret hx hb hr hlocks (Nat.le_of_ble_eq_true rfl) (Nat.le_of_ble_eq_true rfl) hK hP hD hS dX3_has_30 (by unfold opHas; rw [if_neg (fun h => c26 (by simp only [inRow, Int32.le_iff_toInt_le, Int32.lt_iff_toInt_lt, gl_m1, gl_0, gl_1, gl_2, gl_3, gl_5, gl_6, gl_8, gl_9, gl_10, gl_11, gl_20, gl_40, gl_60] at h ⊢; omega))]; exact ⟨rfl, ⟨ma, 0, wl, fd, op, st, zs, ho, ba, se, lx, pe, lt, le, wa, ta, rfl, rfl, hMS, hLc, hQ⟩⟩)
set_option maxHeartbeats 4000000 in
set_option maxRecDepth 100000 in
theorem m_about (l : Launch) (D : va_G) (K : gCl) (ma : Nat → Nat) (op st zs ho ba se lx cn pe lt le wa ta : Nat → Int32) (th wl fd : Int32) (z : Nat → Nat) (sd : Nat → Int32) (ow : Nat → Nat → Int32) (B mh : Nat) (fl : Int32) (q : List Pty) (li : List Nat) (x k : Int32) (sz : Nat) (hz : ∀ i, i < 10 → z i ≤ 20) (hB40 : B ≤ 40) (hq8 : q.length ≤ 8) (hmh6 : mh ≤ 6) (hOR : OR z ow B) (hMS : MS z sd op st zs se ow) (hLc : isL lx li) (hQ : MQr pe lt le q) : gMi l yX3_about wsX3_about ({ frames := 7, cells := 0, slots := 0, locals := 260 } : Room) D vwCl (gT K) [.ref (ma 0), .int x, .int k] (mW K ma th (nI li.length) (nI B) (nI q.length) (nI mh) fl wl fd op st zs ho ba se lx cn pe lt le wa ta) sz (fun _ w1 => MW K (ma 0) (z, sd, ow, cn, B, q, li, mh, fl) w1) 0 0 := by
  refine g_of (cc := cX3_about) (maxL := 3) (ret := (some .int)) (Qc := fun A => va_Qi (fun _ w1 => MW K (ma 0) (z, sd, ow, cn, B, q, li, mh, fl) w1) (gB D vwCl (gT K) A) A) (by decide) rfl (Nat.le_of_ble_eq_true rfl) ?_
  intro p e s m below meth c A ls I hl
  have I0 := I
  obtain ⟨hx, hb, hr, hml, hown, hts, hlocks, hnm, hA, hK, hP, hD, hS⟩ := I
  have hown : s.vm.findClass RX3 = some m.cls := hown
  have hl : lv_has ls 3 [(0, .ref (ma 0)), (1, .int x), (2, .int k)] := hl
  have hi_X3 : ∀ w ∈ u_ws RX3 TX3 21, w ∈ wsX3_about := by decide +kernel
  refine lv_aload_n hx hb dX3_about_0 rfl (lv_at hl 0 rfl) ?_
  refine lv_iconst (v := 0) hx hb dX3_about_1 (by decide) ?_
  refine va_put (C := RX3) (T := TX3) (N := 21) (ci := 3) (ty := .int) hx hb hts hi_X3 tyX3 tyX3_ok nmX3 hown hK hP hD hS (0) (rfl) rfl 0 (by decide) (hts (.fieldLink RX3 50 "GroupSeatsModel" "thrown" "I") (by decide +kernel)) (fun _ h9 => h9) rfl (by decide +kernel) rfl rfl (Nat.le_of_ble_eq_true rfl) dX3_about_2 (fun H locs hP hD hS => ?_)
  have hP : va_P D vwCl (mW K ma 0 (nI li.length) (nI B) (nI q.length) (nI mh) fl wl fd op st zs ho ba se lx cn pe lt le wa ta) H := hP
  have hD : va_D A (mW K ma 0 (nI li.length) (nI B) (nI q.length) (nI mh) fl wl fd op st zs ho ba se lx cn pe lt le wa ta) := hD
  refine lv_iload_n hx hb dX3_about_5 rfl (lv_at hl 1 rfl) ?_
  refine lv_iconst (v := 0) hx hb dX3_about_6 (by decide) ?_
  refine lv_bipush (v := 9) hx hb dX3_about_7 (by decide) ?_
  refine g_calli (va_runS (As := [.int _, .int _, .int _]) (rest := []) ⟨hx, hb, hml, hown, hts⟩ (c_in l D K _ _ _ _ _) (va_cwS 3 hts gX3_about_X3_in rfl rfl rfl (by decide +kernel) ⟨(Nat.le_of_ble_eq_true rfl), (Nat.le_of_ble_eq_true rfl)⟩) (g_preS hK hP hD) rfl rfl hl.1 rfl (lv_room (Nat.le_of_ble_eq_true rfl)) dX3_about_9 ⟨Nat.zero_le _, Nat.zero_le _⟩) hD hS hA (fun r9 wv H locs hw hP hD hS => ?_)
  obtain ⟨ew, e9⟩ := hw
  rw [ew] at hP hD
  refine lv_if_eq (tgt := 24) hx hb dX3_about_12 (by decide) (fun c12 => ?_) (fun c12 => ?_)
  · simp only [e9, Classical.not_not] at c12
    refine lv_iconst (v := -1) hx hb dX3_about_24 (by decide) ?_
    exact g_iret hx hb hr hlocks (Nat.le_of_ble_eq_true rfl) (Nat.le_of_ble_eq_true rfl) hK hP hD hS dX3_about_25 (⟨ma, 0, wl, fd, op, st, zs, ho, ba, se, lx, pe, lt, le, wa, ta, rfl, rfl, hMS, hLc, hQ⟩)
  · simp only [e9, Classical.not_not] at c12
    refine lv_iload_n hx hb dX3_about_15 rfl (lv_at hl 2 rfl) ?_
    refine lv_iconst (v := 0) hx hb dX3_about_16 (by decide) ?_
    refine lv_iconst (v := 3) hx hb dX3_about_17 (by decide) ?_
    refine g_calli (va_runS (As := [.int _, .int _, .int _]) (rest := []) ⟨hx, hb, hml, hown, hts⟩ (c_in l D K _ _ _ _ _) (va_cwS 3 hts gX3_about_X3_in rfl rfl rfl (by decide +kernel) ⟨(Nat.le_of_ble_eq_true rfl), (Nat.le_of_ble_eq_true rfl)⟩) (g_preS hK hP hD) rfl rfl hl.1 rfl (lv_room (Nat.le_of_ble_eq_true rfl)) dX3_about_18 ⟨Nat.zero_le _, Nat.zero_le _⟩) hD hS hA (fun r18 wv H locs hw hP hD hS => ?_)
    obtain ⟨ew, e18⟩ := hw
    rw [ew] at hP hD
    refine lv_if_ne (tgt := 26) hx hb dX3_about_21 (by decide) (fun c21 => ?_) (fun c21 => ?_)
    · obtain ⟨r, hr10, rfl⟩ := g_ix (n := 10) (M := 10) rfl ⟨c12.1, g_le9 c12.2⟩
      have hrz := hz r hr10
      have hxr : ixN (nI r) = r := ixN_nI (by omega)
      have hmr := hMS r hr10
      refine lv_aload_n hx hb dX3_about_26 rfl (lv_at hl 0 rfl) ?_
      refine va_get (C := RX3) (T := TX3) (N := 21) (ci := 3) hx hb hts hi_X3 hown hK hP (0) (rfl) rfl 1 (by decide) (hts (.fieldLink RX3 7 "GroupSeatsModel" "isOpen" "[Z") (by decide +kernel)) (fun _ h9 => h9) rfl dX3_about_27 ?_
      refine lv_iload_n hx hb dX3_about_30 rfl (lv_at hl 1 rfl) ?_
      refine va_zald hx hb hK hP (1) 1 (rfl) rfl (vp_in_nI (show r < 10 by omega) (by decide)) dX3_about_31 ?_
      refine lv_if_ne (tgt := 38) hx hb dX3_about_32 (by decide) (fun c32 => ?_) (fun c32 => ?_)
      · rw [nI_clamp (n := r) (by omega), hmr.1] at c32
        have hzr : z r ≠ 0 := fun q => c32 (by rw [if_pos q])
        have hzs := hmr.2 hzr
        refine lv_iload_n hx hb dX3_about_38 rfl (lv_at hl 2 rfl) ?_
        refine lv_if_ne (tgt := 50) hx hb dX3_about_39 (by decide) (fun c39 => ?_) (fun c39 => ?_)
        · refine lv_iload_n hx hb dX3_about_50 rfl (lv_at hl 2 rfl) ?_
          refine lv_iconst (v := 1) hx hb dX3_about_51 (by decide) ?_
          refine lv_icmp_ne (tgt := 64) hx hb dX3_about_52 (by decide) (fun c52 => ?_) (fun c52 => ?_)
          · refine lv_iload_n hx hb dX3_about_64 rfl (lv_at hl 2 rfl) ?_
            refine lv_iconst (v := 2) hx hb dX3_about_65 (by decide) ?_
            refine lv_icmp_ne (tgt := 78) hx hb dX3_about_66 (by decide) (fun c66 => ?_) (fun c66 => ?_)
            · refine lv_aload_n hx hb dX3_about_78 rfl (lv_at hl 0 rfl) ?_
              refine va_get (C := RX3) (T := TX3) (N := 21) (ci := 3) hx hb hts hi_X3 hown hK hP (0) (rfl) rfl 3 (by decide) (hts (.fieldLink RX3 16 "GroupSeatsModel" "size" "[I") (by decide +kernel)) (fun _ h9 => h9) rfl dX3_about_79 ?_
              refine lv_iload_n hx hb dX3_about_82 rfl (lv_at hl 1 rfl) ?_
              refine va_iald hx hb hK hP (3) 0 (rfl) rfl (vp_in_nI (show r < 10 by omega) (by decide)) dX3_about_83 ?_
              exact g_iret hx hb hr hlocks (Nat.le_of_ble_eq_true rfl) (Nat.le_of_ble_eq_true rfl) hK hP hD hS dX3_about_84 (⟨ma, 0, wl, fd, op, st, zs, ho, ba, se, lx, pe, lt, le, wa, ta, rfl, rfl, hMS, hLc, hQ⟩)
            · refine lv_aload_n hx hb dX3_about_69 rfl (lv_at hl 0 rfl) ?_
              refine va_get (C := RX3) (T := TX3) (N := 21) (ci := 3) hx hb hts hi_X3 hown hK hP (0) (rfl) rfl 5 (by decide) (hts (.fieldLink RX3 23 "GroupSeatsModel" "back" "[I") (by decide +kernel)) (fun _ h9 => h9) rfl dX3_about_70 ?_
              refine lv_iload_n hx hb dX3_about_73 rfl (lv_at hl 1 rfl) ?_
              refine va_iald hx hb hK hP (5) 0 (rfl) rfl (vp_in_nI (show r < 10 by omega) (by decide)) dX3_about_74 ?_
              refine lv_goto (tgt := 84) hx hb dX3_about_75 (by decide) ?_
              exact g_iret hx hb hr hlocks (Nat.le_of_ble_eq_true rfl) (Nat.le_of_ble_eq_true rfl) hK hP hD hS dX3_about_84 (⟨ma, 0, wl, fd, op, st, zs, ho, ba, se, lx, pe, lt, le, wa, ta, rfl, rfl, hMS, hLc, hQ⟩)
          · refine lv_aload_n hx hb dX3_about_55 rfl (lv_at hl 0 rfl) ?_
            refine va_get (C := RX3) (T := TX3) (N := 21) (ci := 3) hx hb hts hi_X3 hown hK hP (0) (rfl) rfl 4 (by decide) (hts (.fieldLink RX3 20 "GroupSeatsModel" "holds" "[I") (by decide +kernel)) (fun _ h9 => h9) rfl dX3_about_56 ?_
            refine lv_iload_n hx hb dX3_about_59 rfl (lv_at hl 1 rfl) ?_
            refine va_iald hx hb hK hP (4) 0 (rfl) rfl (vp_in_nI (show r < 10 by omega) (by decide)) dX3_about_60 ?_
            refine lv_goto (tgt := 84) hx hb dX3_about_61 (by decide) ?_
            exact g_iret hx hb hr hlocks (Nat.le_of_ble_eq_true rfl) (Nat.le_of_ble_eq_true rfl) hK hP hD hS dX3_about_84 (⟨ma, 0, wl, fd, op, st, zs, ho, ba, se, lx, pe, lt, le, wa, ta, rfl, rfl, hMS, hLc, hQ⟩)
        · refine lv_aload_n hx hb dX3_about_42 rfl (lv_at hl 0 rfl) ?_
          refine lv_iload_n hx hb dX3_about_43 rfl (lv_at hl 1 rfl) ?_
          refine g_calli (va_runV (As := [.int _]) (rest := []) ⟨hx, hb, hml, hown, hts⟩ (m_free l D K ma op st zs ho ba se lx cn pe lt le wa ta 0 (nI li.length) (nI B) (nI q.length) (nI mh) fl wl fd r (z r) _ hr10 hrz hzs.1) (cwV 1 hts gX3_about_X3_free rfl rfl rfl (by decide +kernel) ⟨(Nat.le_of_ble_eq_true rfl), (Nat.le_of_ble_eq_true rfl)⟩) (g_preV hK hP hD (ci := 3) (q0 := 0) rfl (rfl)) rfl rfl hl.1 rfl (lv_room (Nat.le_of_ble_eq_true rfl)) dX3_about_44 ⟨Nat.zero_le _, Nat.zero_le _⟩) hD hS hA (fun r44 wv H locs hw hP hD hS => ?_)
          obtain ⟨ew, er⟩ := hw
          rw [ew] at hP hD
          rw [hzs.2.2] at er
          rw [er]
          refine lv_goto (tgt := 84) hx hb dX3_about_47 (by decide) ?_
          exact g_iret hx hb hr hlocks (Nat.le_of_ble_eq_true rfl) (Nat.le_of_ble_eq_true rfl) hK hP hD hS dX3_about_84 (⟨ma, 0, wl, fd, op, st, zs, ho, ba, se, lx, pe, lt, le, wa, ta, rfl, rfl, hMS, hLc, hQ⟩)
      · rw [nI_clamp (n := r) (by omega), hmr.1] at c32
        have hzr : z r = 0 := Classical.not_not.mp (fun q => by rw [if_neg q] at c32; exact absurd c32 (by decide))
        refine lv_bipush (v := -2) hx hb dX3_about_35 (by decide) ?_
        exact g_iret hx hb hr hlocks (Nat.le_of_ble_eq_true rfl) (Nat.le_of_ble_eq_true rfl) hK hP hD hS dX3_about_37 (⟨ma, 0, wl, fd, op, st, zs, ho, ba, se, lx, pe, lt, le, wa, ta, rfl, rfl, hMS, hLc, hQ⟩)
    · refine lv_iconst (v := -1) hx hb dX3_about_24 (by decide) ?_
      exact g_iret hx hb hr hlocks (Nat.le_of_ble_eq_true rfl) (Nat.le_of_ble_eq_true rfl) hK hP hD hS dX3_about_25 (⟨ma, 0, wl, fd, op, st, zs, ho, ba, se, lx, pe, lt, le, wa, ta, rfl, rfl, hMS, hLc, hQ⟩)
set_option maxHeartbeats 4000000 in
set_option maxRecDepth 100000 in
theorem lp_told {p : Program} {l : Launch} {e : Env} {s : State} {m : MethodId} {args : Array Value} {below : List Frame} {meth : Method} {c : Code} {A : Nat → Prop} {D : va_G} {K : gCl} {ws0 : va_W} {rm : Room} {ma : Nat → Nat} {op st zs ho ba se lx cn pe lt le wa ta : Nat → Int32} {wl fd : Int32} {z : Nat → Nat} {sd : Nat → Int32} {ow : Nat → Nat → Int32} {B mh : Nat} {fl : Int32} {q : List Pty} {li : List Nat} {x : Int32} (hMS : MS z sd op st zs se ow) (hLc : isL lx li) (hQ : MQr pe lt le q)
    (I : gIn p s m meth c A yX3_told wsX3_told cX3_told 4 (some .int) args D vwCl (gT K) ws0)  :
    ∀ (k : Nat) (j : Nat) (H : Heap) (locs : List Loc), j + k = 10 → va_P D vwCl (mW K ma 0 (nI li.length) (nI B) (nI q.length) (nI mh) fl wl fd op st zs ho ba se lx cn pe lt le wa ta) H → va_D A (mW K ma 0 (nI li.length) (nI B) (nI q.length) (nI mh) fl wl fd op st zs ho ba se lx cn pe lt le wa ta) → va_S A s.heap H locs →
    ∀ (ls : Array Slot), lv_has ls 4 [(3, .int (nI j)), (2, .int (nI (cntO z j))), (0, .ref (ma 0)), (1, .int x)] →
    W p l e rm s m args below meth c H locs 0 0 (MQ below (va_Qi (RM K (ma 0) (opTold z sd ow cn B q li mh fl x)) (gB D vwCl (gT K) A) A) args s 0 0 A) (F0 m 9 ls []) := by
  have I0 := I
  obtain ⟨hx, hb, hr, hml, hown, hts, hlocks, hnm, hA, hK, -, -, -⟩ := I
  have hown : s.vm.findClass RX3 = some m.cls := hown
  have hi_X3 : ∀ w ∈ u_ws RX3 TX3 21, w ∈ wsX3_told := by decide +kernel
  intro k
  induction k with
  | zero =>
    intro j H locs hi hP hD hS ls hl
    have hj10 : j = 10 := by omega
    subst hj10
    refine lv_iload_n hx hb dX3_told_9 rfl (lv_at hl 0 rfl) ?_
    refine lv_bipush (v := 10) hx hb dX3_told_10 (by decide) ?_
    refine lv_icmp_ge (tgt := 38) hx hb dX3_told_12 (by decide) (fun c12 => ?_) (fun c12 => ?_)
    · refine lv_iload_n hx hb dX3_told_38 rfl (lv_at hl 3 rfl) ?_
      rcases g_sw x 5 (by decide) with hk | ⟨i, hi, rfl⟩
      · refine lv_tableOut (tgt := 103) hx hb dX3_told_39 hk (by decide) ?_
        refine lv_iconst (v := -1) hx hb dX3_told_103 (by decide) ?_
        exact g_iret hx hb hr hlocks (Nat.le_of_ble_eq_true rfl) (Nat.le_of_ble_eq_true rfl) hK hP hD hS dX3_told_104 (by obtain ⟨q0, q1, q2, q3, q4, q5⟩ := told_out hk; unfold opTold; rw [if_neg q0, if_neg q1, if_neg q2, if_neg q3, if_neg q4, if_neg q5]; exact ⟨rfl, ⟨ma, 0, wl, fd, op, st, zs, ho, ba, se, lx, pe, lt, le, wa, ta, rfl, rfl, hMS, hLc, hQ⟩⟩)
      · rcases (show i = 0 ∨ i = 1 ∨ i = 2 ∨ i = 3 ∨ i = 4 ∨ i = 5 by omega) with rfl | rfl | rfl | rfl | rfl | rfl
        · refine lv_tableIn (off := 37) (tgt := 76) hx hb dX3_told_39 (by decide) (by decide) rfl (by decide) ?_
          refine lv_aload_n hx hb dX3_told_76 rfl (lv_at hl 2 rfl) ?_
          refine va_get (C := RX3) (T := TX3) (N := 21) (ci := 3) hx hb hts hi_X3 hown hK hP (0) (rfl) rfl 9 (by decide) (hts (.fieldLink RX3 54 "GroupSeatsModel" "bookings" "I") (by decide +kernel)) (fun _ h9 => h9) rfl dX3_told_77 ?_
          exact g_iret hx hb hr hlocks (Nat.le_of_ble_eq_true rfl) (Nat.le_of_ble_eq_true rfl) hK hP hD hS dX3_told_80 (by unfold opTold; rw [if_pos (by decide)]; exact ⟨rfl, ⟨ma, 0, wl, fd, op, st, zs, ho, ba, se, lx, pe, lt, le, wa, ta, rfl, rfl, hMS, hLc, hQ⟩⟩)
        · refine lv_tableIn (off := 42) (tgt := 81) hx hb dX3_told_39 (by decide) (by decide) rfl (by decide) ?_
          refine lv_aload_n hx hb dX3_told_81 rfl (lv_at hl 2 rfl) ?_
          refine va_get (C := RX3) (T := TX3) (N := 21) (ci := 3) hx hb hts hi_X3 hown hK hP (0) (rfl) rfl 14 (by decide) (hts (.fieldLink RX3 84 "GroupSeatsModel" "waits" "I") (by decide +kernel)) (fun _ h9 => h9) rfl dX3_told_82 ?_
          exact g_iret hx hb hr hlocks (Nat.le_of_ble_eq_true rfl) (Nat.le_of_ble_eq_true rfl) hK hP hD hS dX3_told_85 (by unfold opTold; rw [if_neg (by decide)]; rw [if_pos (by decide)]; exact ⟨rfl, ⟨ma, 0, wl, fd, op, st, zs, ho, ba, se, lx, pe, lt, le, wa, ta, rfl, rfl, hMS, hLc, hQ⟩⟩)
        · refine lv_tableIn (off := 47) (tgt := 86) hx hb dX3_told_39 (by decide) (by decide) rfl (by decide) ?_
          refine lv_aload_n hx hb dX3_told_86 rfl (lv_at hl 2 rfl) ?_
          refine va_get (C := RX3) (T := TX3) (N := 21) (ci := 3) hx hb hts hi_X3 hown hK hP (0) (rfl) rfl 15 (by decide) (hts (.fieldLink RX3 74 "GroupSeatsModel" "most" "I") (by decide +kernel)) (fun _ h9 => h9) rfl dX3_told_87 ?_
          exact g_iret hx hb hr hlocks (Nat.le_of_ble_eq_true rfl) (Nat.le_of_ble_eq_true rfl) hK hP hD hS dX3_told_90 (by unfold opTold; rw [if_neg (by decide)]; rw [if_neg (by decide)]; rw [if_pos (by decide)]; exact ⟨rfl, ⟨ma, 0, wl, fd, op, st, zs, ho, ba, se, lx, pe, lt, le, wa, ta, rfl, rfl, hMS, hLc, hQ⟩⟩)
        · refine lv_tableIn (off := 52) (tgt := 91) hx hb dX3_told_39 (by decide) (by decide) rfl (by decide) ?_
          refine lv_aload_n hx hb dX3_told_91 rfl (lv_at hl 2 rfl) ?_
          refine va_get (C := RX3) (T := TX3) (N := 21) (ci := 3) hx hb hts hi_X3 hown hK hP (0) (rfl) rfl 16 (by decide) (hts (.fieldLink RX3 81 "GroupSeatsModel" "failures" "I") (by decide +kernel)) (fun _ h9 => h9) rfl dX3_told_92 ?_
          exact g_iret hx hb hr hlocks (Nat.le_of_ble_eq_true rfl) (Nat.le_of_ble_eq_true rfl) hK hP hD hS dX3_told_95 (by unfold opTold; rw [if_neg (by decide)]; rw [if_neg (by decide)]; rw [if_neg (by decide)]; rw [if_pos (by decide)]; exact ⟨rfl, ⟨ma, 0, wl, fd, op, st, zs, ho, ba, se, lx, pe, lt, le, wa, ta, rfl, rfl, hMS, hLc, hQ⟩⟩)
        · refine lv_tableIn (off := 57) (tgt := 96) hx hb dX3_told_39 (by decide) (by decide) rfl (by decide) ?_
          refine lv_aload_n hx hb dX3_told_96 rfl (lv_at hl 2 rfl) ?_
          refine va_get (C := RX3) (T := TX3) (N := 21) (ci := 3) hx hb hts hi_X3 hown hK hP (0) (rfl) rfl 8 (by decide) (hts (.fieldLink RX3 105 "GroupSeatsModel" "listed" "I") (by decide +kernel)) (fun _ h9 => h9) rfl dX3_told_97 ?_
          exact g_iret hx hb hr hlocks (Nat.le_of_ble_eq_true rfl) (Nat.le_of_ble_eq_true rfl) hK hP hD hS dX3_told_100 (by unfold opTold; rw [if_neg (by decide)]; rw [if_neg (by decide)]; rw [if_neg (by decide)]; rw [if_neg (by decide)]; rw [if_pos (by decide)]; exact ⟨rfl, ⟨ma, 0, wl, fd, op, st, zs, ho, ba, se, lx, pe, lt, le, wa, ta, rfl, rfl, hMS, hLc, hQ⟩⟩)
        · refine lv_tableIn (off := 62) (tgt := 101) hx hb dX3_told_39 (by decide) (by decide) rfl (by decide) ?_
          refine lv_iload_n hx hb dX3_told_101 rfl (lv_at hl 1 rfl) ?_
          exact g_iret hx hb hr hlocks (Nat.le_of_ble_eq_true rfl) (Nat.le_of_ble_eq_true rfl) hK hP hD hS dX3_told_102 (by unfold opTold; rw [if_neg (by decide)]; rw [if_neg (by decide)]; rw [if_neg (by decide)]; rw [if_neg (by decide)]; rw [if_neg (by decide)]; rw [if_pos (by decide)]; exact ⟨rfl, ⟨ma, 0, wl, fd, op, st, zs, ho, ba, se, lx, pe, lt, le, wa, ta, rfl, rfl, hMS, hLc, hQ⟩⟩)
    · exact absurd (nI_le (a := 10) (by omega) (by omega)) c12
  | succ k ih =>
    intro j H locs hi hP hD hS ls hl
    refine lv_iload_n hx hb dX3_told_9 rfl (lv_at hl 0 rfl) ?_
    refine lv_bipush (v := 10) hx hb dX3_told_10 (by decide) ?_
    refine lv_icmp_ge (tgt := 38) hx hb dX3_told_12 (by decide) (fun c12 => ?_) (fun c12 => ?_)
    · exact absurd c12 (nI_ge (b := 10) (by omega) (by decide))
    · refine lv_iload_n hx hb dX3_told_15 rfl (lv_at hl 1 rfl) ?_
      refine lv_aload_n hx hb dX3_told_16 rfl (lv_at hl 2 rfl) ?_
      refine va_get (C := RX3) (T := TX3) (N := 21) (ci := 3) hx hb hts hi_X3 hown hK hP (0) (rfl) rfl 1 (by decide) (hts (.fieldLink RX3 7 "GroupSeatsModel" "isOpen" "[Z") (by decide +kernel)) (fun _ h9 => h9) rfl dX3_told_17 ?_
      refine lv_iload_n hx hb dX3_told_20 rfl (lv_at hl 0 rfl) ?_
      refine va_zald hx hb hK hP (1) 1 (rfl) rfl (vp_in_nI (show j < 10 by omega) (by decide)) dX3_told_21 ?_
      refine lv_if_eq (tgt := 29) hx hb dX3_told_22 (by decide) (fun c22 => ?_) (fun c22 => ?_)
      · refine lv_iconst (v := 0) hx hb dX3_told_29 (by decide) ?_
        refine lv_iadd hx hb dX3_told_30 ?_
        refine lv_istore_n (lv' := [(2, .int _), (3, .int _), (0, .ref _), (1, .int _)]) hx hb dX3_told_31 rfl hl (by decide) rfl (fun ls hl => ?_)
        refine lv_iinc (lv' := [(3, .int _), (2, .int _), (0, .ref _), (1, .int _)]) hx hb dX3_told_32 hl (k := 1) rfl rfl (by decide) rfl (fun ls hl => ?_)
        refine lv_goto (tgt := 9) hx hb dX3_told_35 (by decide) ?_
        rw [nI_clamp (n := j) (by omega), (hMS j (by omega)).1] at c22
        rw [g_inc] at hl
        have hzj : z j = 0 := Classical.not_not.mp (fun q9 => by rw [if_neg q9] at c22; exact absurd c22 (by decide))
        have e1 : cntO z (j + 1) = cntO z j := by simp [cntO, hzj]
        rw [Int32.add_zero, ← e1] at hl
        exact ih (j + 1) H locs (by omega) hP hD hS ls (lv_sub hl [0, 1, 2, 3] rfl)
      · refine lv_iconst (v := 1) hx hb dX3_told_25 (by decide) ?_
        refine lv_goto (tgt := 30) hx hb dX3_told_26 (by decide) ?_
        refine lv_iadd hx hb dX3_told_30 ?_
        refine lv_istore_n (lv' := [(2, .int _), (3, .int _), (0, .ref _), (1, .int _)]) hx hb dX3_told_31 rfl hl (by decide) rfl (fun ls hl => ?_)
        refine lv_iinc (lv' := [(3, .int _), (2, .int _), (0, .ref _), (1, .int _)]) hx hb dX3_told_32 hl (k := 1) rfl rfl (by decide) rfl (fun ls hl => ?_)
        refine lv_goto (tgt := 9) hx hb dX3_told_35 (by decide) ?_
        rw [nI_clamp (n := j) (by omega), (hMS j (by omega)).1] at c22
        rw [g_inc] at hl
        have hzj : z j ≠ 0 := fun q9 => c22 (by rw [if_pos q9])
        have e1 : cntO z (j + 1) = cntO z j + 1 := by simp [cntO, hzj]
        rw [nI_1, ← e1] at hl
        exact ih (j + 1) H locs (by omega) hP hD hS ls (lv_sub hl [0, 1, 2, 3] rfl)
set_option maxHeartbeats 4000000 in
set_option maxRecDepth 100000 in
theorem m_told (l : Launch) (D : va_G) (K : gCl) (ma : Nat → Nat) (op st zs ho ba se lx cn pe lt le wa ta : Nat → Int32) (th wl fd : Int32) (z : Nat → Nat) (sd : Nat → Int32) (ow : Nat → Nat → Int32) (B mh : Nat) (fl : Int32) (q : List Pty) (li : List Nat) (x : Int32) (sz : Nat) (hz : ∀ i, i < 10 → z i ≤ 20) (hB40 : B ≤ 40) (hq8 : q.length ≤ 8) (hmh6 : mh ≤ 6) (hOR : OR z ow B) (hMS : MS z sd op st zs se ow) (hLc : isL lx li) (hQ : MQr pe lt le q) : gMi l yX3_told wsX3_told ({ frames := 7, cells := 0, slots := 0, locals := 260 } : Room) D vwCl (gT K) [.ref (ma 0), .int x] (mW K ma th (nI li.length) (nI B) (nI q.length) (nI mh) fl wl fd op st zs ho ba se lx cn pe lt le wa ta) sz (RM K (ma 0) (opTold z sd ow cn B q li mh fl x)) 0 0 := by
  refine g_of (cc := cX3_told) (maxL := 4) (ret := (some .int)) (Qc := fun A => va_Qi (RM K (ma 0) (opTold z sd ow cn B q li mh fl x)) (gB D vwCl (gT K) A) A) (by decide) rfl (Nat.le_of_ble_eq_true rfl) ?_
  intro p e s m below meth c A ls I hl
  have I0 := I
  obtain ⟨hx, hb, hr, hml, hown, hts, hlocks, hnm, hA, hK, hP, hD, hS⟩ := I
  have hown : s.vm.findClass RX3 = some m.cls := hown
  have hl : lv_has ls 4 [(0, .ref (ma 0)), (1, .int x)] := hl
  have hi_X3 : ∀ w ∈ u_ws RX3 TX3 21, w ∈ wsX3_told := by decide +kernel
  refine lv_aload_n hx hb dX3_told_0 rfl (lv_at hl 0 rfl) ?_
  refine lv_iconst (v := 0) hx hb dX3_told_1 (by decide) ?_
  refine va_put (C := RX3) (T := TX3) (N := 21) (ci := 3) (ty := .int) hx hb hts hi_X3 tyX3 tyX3_ok nmX3 hown hK hP hD hS (0) (rfl) rfl 0 (by decide) (hts (.fieldLink RX3 50 "GroupSeatsModel" "thrown" "I") (by decide +kernel)) (fun _ h9 => h9) rfl (by decide +kernel) rfl rfl (Nat.le_of_ble_eq_true rfl) dX3_told_2 (fun H locs hP hD hS => ?_)
  have hP : va_P D vwCl (mW K ma 0 (nI li.length) (nI B) (nI q.length) (nI mh) fl wl fd op st zs ho ba se lx cn pe lt le wa ta) H := hP
  have hD : va_D A (mW K ma 0 (nI li.length) (nI B) (nI q.length) (nI mh) fl wl fd op st zs ho ba se lx cn pe lt le wa ta) := hD
  refine lv_iconst (v := 0) hx hb dX3_told_5 (by decide) ?_
  refine lv_istore_n (lv' := [(2, .int _), (0, .ref _), (1, .int _)]) hx hb dX3_told_6 rfl hl (by decide) rfl (fun ls hl => ?_)
  refine lv_iconst (v := 0) hx hb dX3_told_7 (by decide) ?_
  refine lv_istore_n (lv' := [(3, .int _), (2, .int _), (0, .ref _), (1, .int _)]) hx hb dX3_told_8 rfl hl (by decide) rfl (fun ls hl => ?_)
  exact lp_told hMS hLc hQ I0 10 0 _ _ (by omega) hP hD hS ls (lv_sub hl [0, 1, 2, 3] rfl)
end
