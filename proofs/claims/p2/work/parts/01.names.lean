-- ===== PART A: goes FIRST, ahead of the names: the tables' words, and 'selects' of the private methods out of them =====
/-- a private method of a class that the tables say can be made, by its rows of tables_1 -/
def lw_okq (q : MethodName × Nat) : Prop := (q.1.cls ≠ "java/lang/invoke/MethodHandle" ∧ q.1.cls ≠ "java/lang/invoke/VarHandle") ∧ Cond.instantiable q.1.cls q.2 ∈ tables_1 ∧ Cond.privateMethod q.1 ∈ tables_1 ∧ Cond.instanceMethod q.1 ∈ tables_1
theorem lw_p0 : lw_okq (⟨"GroupSeats", "tryThoseWaiting", "()I"⟩, 8) := ⟨⟨by decide +kernel, by decide +kernel⟩, List.mem_of_getElem? (i := 8) (by decide +kernel), List.mem_of_getElem? (i := 106) (by decide +kernel), List.mem_of_getElem? (i := 107) (by decide +kernel)⟩
theorem lw_p1 : lw_okq (⟨"GroupSeats", "goThrough", "(LGroupSeats$Party;)I"⟩, 8) := ⟨⟨by decide +kernel, by decide +kernel⟩, List.mem_of_getElem? (i := 8) (by decide +kernel), List.mem_of_getElem? (i := 110) (by decide +kernel), List.mem_of_getElem? (i := 111) (by decide +kernel)⟩
theorem lw_p2 : lw_okq (⟨"GroupSeats", "goOn", "(LGroupSeats$Party;II)I"⟩, 8) := ⟨⟨by decide +kernel, by decide +kernel⟩, List.mem_of_getElem? (i := 8) (by decide +kernel), List.mem_of_getElem? (i := 114) (by decide +kernel), List.mem_of_getElem? (i := 115) (by decide +kernel)⟩
theorem lw_p3 : lw_okq (⟨"GroupSeats", "obstacleAt", "(LGroupSeats$Party;I)I"⟩, 8) := ⟨⟨by decide +kernel, by decide +kernel⟩, List.mem_of_getElem? (i := 8) (by decide +kernel), List.mem_of_getElem? (i := 118) (by decide +kernel), List.mem_of_getElem? (i := 119) (by decide +kernel)⟩
theorem lw_p4 : lw_okq (⟨"GroupSeats", "queueUp", "()V"⟩, 8) := ⟨⟨by decide +kernel, by decide +kernel⟩, List.mem_of_getElem? (i := 8) (by decide +kernel), List.mem_of_getElem? (i := 163) (by decide +kernel), List.mem_of_getElem? (i := 164) (by decide +kernel)⟩
theorem lw_p5 : lw_okq (⟨"GroupSeats", "isBooking", "(I)Z"⟩, 8) := ⟨⟨by decide +kernel, by decide +kernel⟩, List.mem_of_getElem? (i := 8) (by decide +kernel), List.mem_of_getElem? (i := 171) (by decide +kernel), List.mem_of_getElem? (i := 172) (by decide +kernel)⟩
theorem lw_p6 : lw_okq (⟨"GroupSeats", "isWaiting", "(I)Z"⟩, 8) := ⟨⟨by decide +kernel, by decide +kernel⟩, List.mem_of_getElem? (i := 8) (by decide +kernel), List.mem_of_getElem? (i := 183) (by decide +kernel), List.mem_of_getElem? (i := 184) (by decide +kernel)⟩
theorem lw_p7 : lw_okq (⟨"GroupSeats", "openRows", "()I"⟩, 8) := ⟨⟨by decide +kernel, by decide +kernel⟩, List.mem_of_getElem? (i := 8) (by decide +kernel), List.mem_of_getElem? (i := 203) (by decide +kernel), List.mem_of_getElem? (i := 204) (by decide +kernel)⟩
theorem lw_p8 : lw_okq (⟨"GroupSeatsModel", "tried", "()I"⟩, 21) := ⟨⟨by decide +kernel, by decide +kernel⟩, List.mem_of_getElem? (i := 211) (by decide +kernel), List.mem_of_getElem? (i := 288) (by decide +kernel), List.mem_of_getElem? (i := 289) (by decide +kernel)⟩
theorem lw_p9 : lw_okq (⟨"GroupSeatsModel", "goes", "(II)I"⟩, 21) := ⟨⟨by decide +kernel, by decide +kernel⟩, List.mem_of_getElem? (i := 211) (by decide +kernel), List.mem_of_getElem? (i := 292) (by decide +kernel), List.mem_of_getElem? (i := 293) (by decide +kernel)⟩
theorem lw_p10 : lw_okq (⟨"GroupSeatsModel", "takes", "(II)I"⟩, 21) := ⟨⟨by decide +kernel, by decide +kernel⟩, List.mem_of_getElem? (i := 211) (by decide +kernel), List.mem_of_getElem? (i := 296) (by decide +kernel), List.mem_of_getElem? (i := 297) (by decide +kernel)⟩
theorem lw_p11 : lw_okq (⟨"GroupSeatsModel", "mark", "(III)I"⟩, 21) := ⟨⟨by decide +kernel, by decide +kernel⟩, List.mem_of_getElem? (i := 211) (by decide +kernel), List.mem_of_getElem? (i := 300) (by decide +kernel), List.mem_of_getElem? (i := 301) (by decide +kernel)⟩
theorem lw_p12 : lw_okq (⟨"GroupSeatsModel", "stretch", "(II)I"⟩, 21) := ⟨⟨by decide +kernel, by decide +kernel⟩, List.mem_of_getElem? (i := 211) (by decide +kernel), List.mem_of_getElem? (i := 304) (by decide +kernel), List.mem_of_getElem? (i := 305) (by decide +kernel)⟩
theorem lw_p13 : lw_okq (⟨"GroupSeatsModel", "giveBack", "(I)V"⟩, 21) := ⟨⟨by decide +kernel, by decide +kernel⟩, List.mem_of_getElem? (i := 211) (by decide +kernel), List.mem_of_getElem? (i := 308) (by decide +kernel), List.mem_of_getElem? (i := 309) (by decide +kernel)⟩
theorem lw_p14 : lw_okq (⟨"GroupSeatsModel", "removed", "(I)V"⟩, 21) := ⟨⟨by decide +kernel, by decide +kernel⟩, List.mem_of_getElem? (i := 211) (by decide +kernel), List.mem_of_getElem? (i := 312) (by decide +kernel), List.mem_of_getElem? (i := 313) (by decide +kernel)⟩
theorem lw_p15 : lw_okq (⟨"GroupSeatsModel", "free", "(I)I"⟩, 21) := ⟨⟨by decide +kernel, by decide +kernel⟩, List.mem_of_getElem? (i := 211) (by decide +kernel), List.mem_of_getElem? (i := 320) (by decide +kernel), List.mem_of_getElem? (i := 321) (by decide +kernel)⟩
def lw_privs_1 : List (MethodName × Nat) := [(⟨"GroupSeats", "tryThoseWaiting", "()I"⟩, 8), (⟨"GroupSeats", "goThrough", "(LGroupSeats$Party;)I"⟩, 8), (⟨"GroupSeats", "goOn", "(LGroupSeats$Party;II)I"⟩, 8), (⟨"GroupSeats", "obstacleAt", "(LGroupSeats$Party;I)I"⟩, 8), (⟨"GroupSeats", "queueUp", "()V"⟩, 8), (⟨"GroupSeats", "isBooking", "(I)Z"⟩, 8), (⟨"GroupSeats", "isWaiting", "(I)Z"⟩, 8), (⟨"GroupSeats", "openRows", "()I"⟩, 8), (⟨"GroupSeatsModel", "tried", "()I"⟩, 21), (⟨"GroupSeatsModel", "goes", "(II)I"⟩, 21), (⟨"GroupSeatsModel", "takes", "(II)I"⟩, 21), (⟨"GroupSeatsModel", "mark", "(III)I"⟩, 21), (⟨"GroupSeatsModel", "stretch", "(II)I"⟩, 21), (⟨"GroupSeatsModel", "giveBack", "(I)V"⟩, 21), (⟨"GroupSeatsModel", "removed", "(I)V"⟩, 21), (⟨"GroupSeatsModel", "free", "(I)I"⟩, 21)]
theorem lw_r1 : ∀ q ∈ lw_privs_1, lw_okq q := List.forall_mem_cons.mpr ⟨lw_p0, List.forall_mem_cons.mpr ⟨lw_p1, List.forall_mem_cons.mpr ⟨lw_p2, List.forall_mem_cons.mpr ⟨lw_p3, List.forall_mem_cons.mpr ⟨lw_p4, List.forall_mem_cons.mpr ⟨lw_p5, List.forall_mem_cons.mpr ⟨lw_p6, List.forall_mem_cons.mpr ⟨lw_p7, List.forall_mem_cons.mpr ⟨lw_p8, List.forall_mem_cons.mpr ⟨lw_p9, List.forall_mem_cons.mpr ⟨lw_p10, List.forall_mem_cons.mpr ⟨lw_p11, List.forall_mem_cons.mpr ⟨lw_p12, List.forall_mem_cons.mpr ⟨lw_p13, List.forall_mem_cons.mpr ⟨lw_p14, List.forall_mem_cons.mpr ⟨lw_p15, fun _ h => absurd h List.not_mem_nil⟩⟩⟩⟩⟩⟩⟩⟩⟩⟩⟩⟩⟩⟩⟩⟩
def lw_privs : List (MethodName × Nat) := lw_privs_1
def lw_tbl : List Cond := k2_sels lw_privs ++ tables_1
theorem lw_privs_ok : ∀ q ∈ lw_privs, lw_okq q := lw_r1
/-! ===== BEGIN words of one list among another's, by their places ===== -/
theorem goodIn_r {big : List Cond} (ws : List Cond) (ps : List Nat) (hp : ws = ps.filterMap (fun i => big[i]?)) (h : ws.all goodWord = true) : GoodIn big ws := by
  intro w hw
  have h1 := List.all_eq_true.mp h w hw
  rw [hp] at hw
  obtain ⟨i, -, hi⟩ := List.mem_filterMap.mp hw
  have hm : w ∈ big := by first | exact List.mem_of_getElem? hi | exact List.getElem?_mem hi
  exact ⟨hm, good_of_word h1⟩
theorem goodIn_app {big a b : List Cond} (ha : GoodIn big a) (hb : GoodIn big b) : GoodIn big (a ++ b) := fun w h => (List.mem_append.mp h).elim (ha w) (hb w)
theorem goodIn_ca {big a b : List Cond} {c : Cond} (ha : GoodIn big (c :: a)) (hb : GoodIn big b) : GoodIn big (c :: (a ++ b)) := fun w h => (List.mem_cons.mp h).elim (fun e => ha w (List.mem_cons.mpr (Or.inl e))) (fun h => (List.mem_append.mp h).elim (fun h => ha w (List.mem_cons.mpr (Or.inr h))) (hb w))
theorem goodIn_sub {big ws : List Cond} (hm : ∀ w ∈ ws, w ∈ big) (h : ws.all goodWord = true) : GoodIn big ws := fun w hw => ⟨hm w hw, good_of_word (List.all_eq_true.mp h w hw)⟩
/-! ===== END ===== -/

/-! ===== BEGIN printed: names, fields, word lists, decode rows ===== -/
def RX0 : String := "GroupSeats$Party"
def TX0 : u_T := fun k => match k with
  | 0 => ("GroupSeats$Party", "numbers", "[I", true)
  | 1 => ("GroupSeats$Party", "listed", "I", false)
  | 2 => ("GroupSeats$Party", "size", "I", false)
  | _ => ("GroupSeats$Party", "mode", "I", false)
def tyX0 : Nat → FieldType := fun k => match k with
  | 0 => .array .int
  | 1 => .int
  | 2 => .int
  | _ => .int
abbrev wsX00 : List Cond := u_ws RX0 TX0 4
theorem nmX0 : ∀ a, a < 4 → ∀ b, b < 4 → a ≠ b → (TX0 a).2.1 ≠ (TX0 b).2.1 := by decide +kernel
theorem tyX0_ok : ∀ k, k < 4 → parseFieldDescriptor (TX0 k).2.2.1 = some (tyX0 k) := by decide +kernel
abbrev cX0_init : ByteArray := prog_2_method_1_code
def yX0_init : MethodName := ⟨RX0, "<init>", "()V"⟩
def RX1 : String := "GroupSeats$Row"
def TX1 : u_T := fun k => match k with
  | 0 => ("GroupSeats$Row", "owners", "[I", true)
  | 1 => ("GroupSeats$Row", "size", "I", false)
  | 2 => ("GroupSeats$Row", "sideBySide", "Z", false)
  | 3 => ("GroupSeats$Row", "holds", "I", false)
  | _ => ("GroupSeats$Row", "backs", "I", false)
def tyX1 : Nat → FieldType := fun k => match k with
  | 0 => .array .int
  | 1 => .int
  | 2 => .boolean
  | 3 => .int
  | _ => .int
abbrev wsX10 : List Cond := u_ws RX1 TX1 5
theorem nmX1 : ∀ a, a < 5 → ∀ b, b < 5 → a ≠ b → (TX1 a).2.1 ≠ (TX1 b).2.1 := by decide +kernel
theorem tyX1_ok : ∀ k, k < 5 → parseFieldDescriptor (TX1 k).2.2.1 = some (tyX1 k) := by decide +kernel
abbrev cX1_init : ByteArray := prog_3_method_1_code
def yX1_init : MethodName := ⟨RX1, "<init>", "()V"⟩
abbrev cX1_isOpen : ByteArray := prog_3_method_2_code
def yX1_isOpen : MethodName := ⟨RX1, "isOpen", "()Z"⟩
abbrev cX1_begin : ByteArray := prog_3_method_3_code
def yX1_begin : MethodName := ⟨RX1, "begin", "(I)V"⟩
abbrev cX1_seatsOf : ByteArray := prog_3_method_4_code
def yX1_seatsOf : MethodName := ⟨RX1, "seatsOf", "(I)I"⟩
abbrev cX1_freeSeatsOf : ByteArray := prog_3_method_5_code
def yX1_freeSeatsOf : MethodName := ⟨RX1, "freeSeatsOf", "(I)V"⟩
abbrev cX1_take : ByteArray := prog_3_method_6_code
def yX1_take : MethodName := ⟨RX1, "take", "(II)I"⟩
abbrev cX1_bestStretch : ByteArray := prog_3_method_7_code
def yX1_bestStretch : MethodName := ⟨RX1, "bestStretch", "(I)I"⟩
abbrev cX1_giveBack : ByteArray := prog_3_method_8_code
def yX1_giveBack : MethodName := ⟨RX1, "giveBack", "(I)V"⟩
def RX2 : String := "GroupSeats"
def TX2 : u_T := fun k => match k with
  | 0 => ("GroupSeats", "rows", "[LGroupSeats$Row;", true)
  | 1 => ("GroupSeats", "cancelled", "[Z", true)
  | 2 => ("GroupSeats", "queue", "[LGroupSeats$Party;", true)
  | 3 => ("GroupSeats", "coming", "LGroupSeats$Party;", false)
  | 4 => ("GroupSeats", "bookings", "I", false)
  | 5 => ("GroupSeats", "waiters", "I", false)
  | 6 => ("GroupSeats", "mostHeld", "I", false)
  | _ => ("GroupSeats", "failures", "I", false)
def tyX2 : Nat → FieldType := fun k => match k with
  | 0 => .array (.object "GroupSeats$Row")
  | 1 => .array .boolean
  | 2 => .array (.object "GroupSeats$Party")
  | 3 => .object "GroupSeats$Party"
  | 4 => .int
  | 5 => .int
  | 6 => .int
  | _ => .int
abbrev wsX20 : List Cond := u_ws RX2 TX2 8
theorem nmX2 : ∀ a, a < 8 → ∀ b, b < 8 → a ≠ b → (TX2 a).2.1 ≠ (TX2 b).2.1 := by decide +kernel
theorem tyX2_ok : ∀ k, k < 8 → parseFieldDescriptor (TX2 k).2.2.1 = some (tyX2 k) := by decide +kernel
abbrev cX2_init : ByteArray := prog_1_method_1_code
def yX2_init : MethodName := ⟨RX2, "<init>", "()V"⟩
abbrev cX2_open : ByteArray := prog_1_method_2_code
def yX2_open : MethodName := ⟨RX2, "open", "(II)I"⟩
abbrev cX2_shut : ByteArray := prog_1_method_3_code
def yX2_shut : MethodName := ⟨RX2, "shut", "(I)I"⟩
abbrev cX2_strict : ByteArray := prog_1_method_4_code
def yX2_strict : MethodName := ⟨RX2, "strict", "(IZ)I"⟩
abbrev cX2_list : ByteArray := prog_1_method_5_code
def yX2_list : MethodName := ⟨RX2, "list", "(I)I"⟩
abbrev cX2_book : ByteArray := prog_1_method_6_code
def yX2_book : MethodName := ⟨RX2, "book", "(II)I"⟩
abbrev cX2_cancel : ByteArray := prog_1_method_7_code
def yX2_cancel : MethodName := ⟨RX2, "cancel", "(I)I"⟩
abbrev cX2_leave : ByteArray := prog_1_method_8_code
def yX2_leave : MethodName := ⟨RX2, "leave", "(I)I"⟩
abbrev cX2_seat : ByteArray := prog_1_method_9_code
def yX2_seat : MethodName := ⟨RX2, "seat", "(II)I"⟩
abbrev cX2_has : ByteArray := prog_1_method_10_code
def yX2_has : MethodName := ⟨RX2, "has", "(II)I"⟩
abbrev cX2_about : ByteArray := prog_1_method_11_code
def yX2_about : MethodName := ⟨RX2, "about", "(II)I"⟩
abbrev cX2_told : ByteArray := prog_1_method_12_code
def yX2_told : MethodName := ⟨RX2, "told", "(I)I"⟩
abbrev cX2_waiting : ByteArray := prog_1_method_13_code
def yX2_waiting : MethodName := ⟨RX2, "waiting", "(I)I"⟩
abbrev cX2_isRow : ByteArray := prog_1_method_14_code
def yX2_isRow : MethodName := ⟨RX2, "isRow", "(I)Z"⟩
abbrev cX2_isBooking : ByteArray := prog_1_method_15_code
def yX2_isBooking : MethodName := ⟨RX2, "isBooking", "(I)Z"⟩
abbrev cX2_isWaiting : ByteArray := prog_1_method_16_code
def yX2_isWaiting : MethodName := ⟨RX2, "isWaiting", "(I)Z"⟩
abbrev cX2_openRows : ByteArray := prog_1_method_17_code
def yX2_openRows : MethodName := ⟨RX2, "openRows", "()I"⟩
abbrev cX2_queueUp : ByteArray := prog_1_method_18_code
def yX2_queueUp : MethodName := ⟨RX2, "queueUp", "()V"⟩
abbrev cX2_tryThoseWaiting : ByteArray := prog_1_method_19_code
def yX2_tryThoseWaiting : MethodName := ⟨RX2, "tryThoseWaiting", "()I"⟩
abbrev cX2_goThrough : ByteArray := prog_1_method_20_code
def yX2_goThrough : MethodName := ⟨RX2, "goThrough", "(LGroupSeats$Party;)I"⟩
abbrev cX2_goOn : ByteArray := prog_1_method_21_code
def yX2_goOn : MethodName := ⟨RX2, "goOn", "(LGroupSeats$Party;II)I"⟩
abbrev cX2_obstacleAt : ByteArray := prog_1_method_22_code
def yX2_obstacleAt : MethodName := ⟨RX2, "obstacleAt", "(LGroupSeats$Party;I)I"⟩
def RX3 : String := "GroupSeatsModel"
def TX3 : u_T := fun k => match k with
  | 0 => ("GroupSeatsModel", "thrown", "I", false)
  | 1 => ("GroupSeatsModel", "isOpen", "[Z", true)
  | 2 => ("GroupSeatsModel", "isStrict", "[Z", true)
  | 3 => ("GroupSeatsModel", "size", "[I", true)
  | 4 => ("GroupSeatsModel", "holds", "[I", true)
  | 5 => ("GroupSeatsModel", "back", "[I", true)
  | 6 => ("GroupSeatsModel", "seats", "[I", true)
  | 7 => ("GroupSeatsModel", "list", "[I", true)
  | 8 => ("GroupSeatsModel", "listed", "I", false)
  | 9 => ("GroupSeatsModel", "bookings", "I", false)
  | 10 => ("GroupSeatsModel", "isCancelled", "[Z", true)
  | 11 => ("GroupSeatsModel", "people", "[I", true)
  | 12 => ("GroupSeatsModel", "lists", "[I", true)
  | 13 => ("GroupSeatsModel", "lengths", "[I", true)
  | 14 => ("GroupSeatsModel", "waits", "I", false)
  | 15 => ("GroupSeatsModel", "most", "I", false)
  | 16 => ("GroupSeatsModel", "failures", "I", false)
  | 17 => ("GroupSeatsModel", "way", "[I", true)
  | 18 => ("GroupSeatsModel", "wayLong", "I", false)
  | 19 => ("GroupSeatsModel", "taken", "[I", true)
  | _ => ("GroupSeatsModel", "found", "I", false)
def tyX3 : Nat → FieldType := fun k => match k with
  | 0 => .int
  | 1 => .array .boolean
  | 2 => .array .boolean
  | 3 => .array .int
  | 4 => .array .int
  | 5 => .array .int
  | 6 => .array .int
  | 7 => .array .int
  | 8 => .int
  | 9 => .int
  | 10 => .array .boolean
  | 11 => .array .int
  | 12 => .array .int
  | 13 => .array .int
  | 14 => .int
  | 15 => .int
  | 16 => .int
  | 17 => .array .int
  | 18 => .int
  | 19 => .array .int
  | _ => .int
abbrev wsX30 : List Cond := u_ws RX3 TX3 21
theorem nmX3 : ∀ a, a < 21 → ∀ b, b < 21 → a ≠ b → (TX3 a).2.1 ≠ (TX3 b).2.1 := by decide +kernel
theorem tyX3_ok : ∀ k, k < 21 → parseFieldDescriptor (TX3 k).2.2.1 = some (tyX3 k) := by decide +kernel
abbrev cX3_init : ByteArray := prog_5_method_1_code
def yX3_init : MethodName := ⟨RX3, "<init>", "()V"⟩
abbrev cX3_in : ByteArray := prog_5_method_3_code
def yX3_in : MethodName := ⟨RX3, "in", "(III)Z"⟩
abbrev cX3_mark : ByteArray := prog_5_method_4_code
def yX3_mark : MethodName := ⟨RX3, "mark", "(III)I"⟩
abbrev cX3_stretch : ByteArray := prog_5_method_5_code
def yX3_stretch : MethodName := ⟨RX3, "stretch", "(II)I"⟩
abbrev cX3_takes : ByteArray := prog_5_method_6_code
def yX3_takes : MethodName := ⟨RX3, "takes", "(II)I"⟩
abbrev cX3_giveBack : ByteArray := prog_5_method_7_code
def yX3_giveBack : MethodName := ⟨RX3, "giveBack", "(I)V"⟩
abbrev cX3_goes : ByteArray := prog_5_method_8_code
def yX3_goes : MethodName := ⟨RX3, "goes", "(II)I"⟩
abbrev cX3_removed : ByteArray := prog_5_method_9_code
def yX3_removed : MethodName := ⟨RX3, "removed", "(I)V"⟩
abbrev cX3_tried : ByteArray := prog_5_method_10_code
def yX3_tried : MethodName := ⟨RX3, "tried", "()I"⟩
abbrev cX3_open : ByteArray := prog_5_method_11_code
def yX3_open : MethodName := ⟨RX3, "open", "(II)I"⟩
abbrev cX3_free : ByteArray := prog_5_method_12_code
def yX3_free : MethodName := ⟨RX3, "free", "(I)I"⟩
abbrev cX3_shut : ByteArray := prog_5_method_13_code
def yX3_shut : MethodName := ⟨RX3, "shut", "(I)I"⟩
abbrev cX3_strict : ByteArray := prog_5_method_14_code
def yX3_strict : MethodName := ⟨RX3, "strict", "(IZ)I"⟩
abbrev cX3_list : ByteArray := prog_5_method_15_code
def yX3_list : MethodName := ⟨RX3, "list", "(I)I"⟩
abbrev cX3_book : ByteArray := prog_5_method_16_code
def yX3_book : MethodName := ⟨RX3, "book", "(II)I"⟩
abbrev cX3_cancel : ByteArray := prog_5_method_17_code
def yX3_cancel : MethodName := ⟨RX3, "cancel", "(I)I"⟩
abbrev cX3_leave : ByteArray := prog_5_method_18_code
def yX3_leave : MethodName := ⟨RX3, "leave", "(I)I"⟩
abbrev cX3_seat : ByteArray := prog_5_method_19_code
def yX3_seat : MethodName := ⟨RX3, "seat", "(II)I"⟩
abbrev cX3_has : ByteArray := prog_5_method_20_code
def yX3_has : MethodName := ⟨RX3, "has", "(II)I"⟩
abbrev cX3_about : ByteArray := prog_5_method_21_code
def yX3_about : MethodName := ⟨RX3, "about", "(II)I"⟩
abbrev cX3_told : ByteArray := prog_5_method_22_code
def yX3_told : MethodName := ⟨RX3, "told", "(I)I"⟩
abbrev cX3_waiting : ByteArray := prog_5_method_23_code
def yX3_waiting : MethodName := ⟨RX3, "waiting", "(I)I"⟩
def RJ6 : String := "java/lang/Integer"
def TJ6 : u_T := fun k => match k with
  | _ => ("", "", "", false)
def tyJ6 : Nat → FieldType := fun k => match k with
  | _ => .int
abbrev wsJ60 : List Cond := u_ws RJ6 TJ6 0
theorem nmJ6 : ∀ a, a < 0 → ∀ b, b < 0 → a ≠ b → (TJ6 a).2.1 ≠ (TJ6 b).2.1 := by decide +kernel
theorem tyJ6_ok : ∀ k, k < 0 → parseFieldDescriptor (TJ6 k).2.2.1 = some (tyJ6 k) := by decide +kernel
abbrev cJ6_bitCount_0f7a4 : ByteArray := prog_6_method_49_code
def yJ6_bitCount_0f7a4 : MethodName := ⟨RJ6, "bitCount", "(I)I"⟩
def RJ9 : String := "java/lang/Math"
def TJ9 : u_T := fun k => match k with
  | _ => ("", "", "", false)
def tyJ9 : Nat → FieldType := fun k => match k with
  | _ => .int
abbrev wsJ90 : List Cond := u_ws RJ9 TJ9 0
theorem nmJ9 : ∀ a, a < 0 → ∀ b, b < 0 → a ≠ b → (TJ9 a).2.1 ≠ (TJ9 b).2.1 := by decide +kernel
theorem tyJ9_ok : ∀ k, k < 0 → parseFieldDescriptor (TJ9 k).2.2.1 = some (tyJ9 k) := by decide +kernel
abbrev cJ9_max_7cf53 : ByteArray := prog_7_method_65_code
def yJ9_max_7cf53 : MethodName := ⟨RJ9, "max", "(II)I"⟩
def RL : String := "GroupSeatsLaw"
abbrev cL_law : ByteArray := code
def yL_law : MethodName := ⟨RL, "law", "([I)Z"⟩
def wsX0_init : List Cond := .code yX0_init cX0_init 1 none :: ([.methodLink RX0 3 objectInit, .instanceMethod objectInit, .code objectInit ⟨#[0xb1]⟩ 1 none, .arrayClass .int, .fieldLink RX0 9 "GroupSeats$Party" "numbers" "[I"] ++ wsX00)
def wsX1_init : List Cond := .code yX1_init cX1_init 1 none :: ([.methodLink RX1 3 objectInit, .instanceMethod objectInit, .code objectInit ⟨#[0xb1]⟩ 1 none, .arrayClass .int, .fieldLink RX1 9 "GroupSeats$Row" "owners" "[I"] ++ wsX10)
def wsX1_isOpen : List Cond := .code yX1_isOpen cX1_isOpen 1 (some .boolean) :: ([.fieldLink RX1 15 "GroupSeats$Row" "size" "I"] ++ wsX10)
def wsX1_begin : List Cond := .code yX1_begin cX1_begin 3 none :: ([.fieldLink RX1 15 "GroupSeats$Row" "size" "I", .fieldLink RX1 19 "GroupSeats$Row" "sideBySide" "Z", .fieldLink RX1 23 "GroupSeats$Row" "backs" "I", .fieldLink RX1 9 "GroupSeats$Row" "owners" "[I"] ++ wsX10)
def wsX1_seatsOf : List Cond := .code yX1_seatsOf cX1_seatsOf 4 (some .int) :: ([.fieldLink RX1 15 "GroupSeats$Row" "size" "I", .fieldLink RX1 9 "GroupSeats$Row" "owners" "[I"] ++ wsX10)
def wsX1_freeSeatsOf : List Cond := .code yX1_freeSeatsOf cX1_freeSeatsOf 3 none :: ([.fieldLink RX1 15 "GroupSeats$Row" "size" "I", .fieldLink RX1 9 "GroupSeats$Row" "owners" "[I"] ++ wsX10)
def wsX1_bestStretch : List Cond := .code yX1_bestStretch cX1_bestStretch 6 (some .int) :: ([.fieldLink RX1 15 "GroupSeats$Row" "size" "I", .fieldLink RX1 9 "GroupSeats$Row" "owners" "[I"] ++ wsX10)
def wsX1_take : List Cond := .code yX1_take cX1_take 7 (some .int) :: ([.fieldLink RX1 19 "GroupSeats$Row" "sideBySide" "Z", .fieldLink RX1 15 "GroupSeats$Row" "size" "I", .fieldLink RX1 9 "GroupSeats$Row" "owners" "[I", .methodLink RX1 26 yX1_bestStretch, .instanceMethod yX1_bestStretch, .selects RX1 yX1_bestStretch yX1_bestStretch, .initialized RX1, .code yX1_bestStretch cX1_bestStretch 6 (some .int)] ++ wsX10)
def wsX1_giveBack : List Cond := .code yX1_giveBack cX1_giveBack 3 none :: ([.fieldLink RX1 23 "GroupSeats$Row" "backs" "I", .fieldLink RX1 15 "GroupSeats$Row" "size" "I", .fieldLink RX1 9 "GroupSeats$Row" "owners" "[I"] ++ wsX10)
def wsX2_init : List Cond := .code yX2_init cX2_init 2 none :: ([.methodLink RX2 1 objectInit, .instanceMethod objectInit, .code objectInit ⟨#[0xb1]⟩ 1 none, .classLink RX2 9 RX1, .fieldLink RX2 11 "GroupSeats" "rows" "[LGroupSeats$Row;", .arrayClass .boolean, .fieldLink RX2 15 "GroupSeats" "cancelled" "[Z", .classLink RX2 19 RX0, .fieldLink RX2 21 "GroupSeats" "queue" "[LGroupSeats$Party;", .instantiable RX0 4, .initialized RX0, .fieldLink RX2 26 "GroupSeats" "coming" "LGroupSeats$Party;", .instantiable RX1 5, .initialized RX1, .instanceMethod yX0_init, .code yX0_init cX0_init 1 none, .methodLink RX0 3 objectInit, .arrayClass .int, .fieldLink RX0 9 "GroupSeats$Party" "numbers" "[I", .instanceMethod yX1_init, .code yX1_init cX1_init 1 none, .methodLink RX1 3 objectInit, .fieldLink RX1 9 "GroupSeats$Row" "owners" "[I"] ++ wsX20 ++ wsX00 ++ wsX10)
def wsX2_isRow : List Cond := .code yX2_isRow cX2_isRow 1 (some .boolean) :: ([])
def wsX2_obstacleAt : List Cond := .code yX2_obstacleAt cX2_obstacleAt 4 (some .int) :: ([.fieldLink RX2 59 "GroupSeats$Party" "listed" "I", .fieldLink RX2 62 "GroupSeats$Party" "numbers" "[I", .fieldLink RX2 11 "GroupSeats" "rows" "[LGroupSeats$Row;", .methodLink RX2 31 yX2_isRow, .static yX2_isRow, .initialized RX2, .code yX2_isRow cX2_isRow 1 (some .boolean), .methodLink RX2 35 yX1_isOpen, .instanceMethod yX1_isOpen, .selects RX1 yX1_isOpen yX1_isOpen, .initialized RX1, .code yX1_isOpen cX1_isOpen 1 (some .boolean), .fieldLink RX1 15 "GroupSeats$Row" "size" "I"] ++ wsX00 ++ wsX20 ++ wsX10)
def wsJ6_bitCount_0f7a4 : List Cond := .code yJ6_bitCount_0f7a4 cJ6_bitCount_0f7a4 1 (some .int) :: ([.constant RJ6 265 (1431655765), .constant RJ6 266 (858993459), .constant RJ6 267 (252645135)])
def wsX2_goOn_r1 : List Cond := [Cond.fieldLink RX2 70 "GroupSeats$Party" "mode" "I", Cond.fieldLink RX2 69 "GroupSeats$Party" "size" "I", Cond.fieldLink RX2 11 "GroupSeats" "rows" "[LGroupSeats$Row;", Cond.fieldLink RX2 62 "GroupSeats$Party" "numbers" "[I", Cond.fieldLink RX2 95 "GroupSeats$Row" "holds" "I", Cond.fieldLink RX2 101 "GroupSeats" "mostHeld" "I", Cond.methodLink RX2 118 Lib.Math.max.name, Cond.static Lib.Math.max.name, Cond.initialized "java/lang/Math", Cond.code Lib.Math.max.name Lib.Math.max.code 2 (some .int), Cond.fieldLink RX2 66 "GroupSeats" "bookings" "I", Cond.methodLink RX2 114 yX2_obstacleAt, Cond.instanceMethod yX2_obstacleAt, Cond.selects RX2 yX2_obstacleAt yX2_obstacleAt, Cond.initialized RX2, Cond.code yX2_obstacleAt cX2_obstacleAt 4 (some .int), Cond.fieldLink RX2 59 "GroupSeats$Party" "listed" "I", Cond.methodLink RX2 31 yX2_isRow, Cond.static yX2_isRow, Cond.code yX2_isRow cX2_isRow 1 (some .boolean), Cond.methodLink RX2 35 yX1_isOpen, Cond.instanceMethod yX1_isOpen, Cond.selects RX1 yX1_isOpen yX1_isOpen, Cond.initialized RX1]
def wsX2_goOn_r2 : List Cond := [Cond.code yX1_isOpen cX1_isOpen 1 (some .boolean), Cond.fieldLink RX1 15 "GroupSeats$Row" "size" "I", Cond.methodLink RX2 124 yX1_take, Cond.instanceMethod yX1_take, Cond.selects RX1 yX1_take yX1_take, Cond.code yX1_take cX1_take 7 (some .int), Cond.fieldLink RX1 19 "GroupSeats$Row" "sideBySide" "Z", Cond.fieldLink RX1 9 "GroupSeats$Row" "owners" "[I", Cond.methodLink RX1 26 yX1_bestStretch, Cond.instanceMethod yX1_bestStretch, Cond.selects RX1 yX1_bestStretch yX1_bestStretch, Cond.code yX1_bestStretch cX1_bestStretch 6 (some .int), Cond.methodLink RX2 127 yJ6_bitCount_0f7a4, Cond.static yJ6_bitCount_0f7a4, Cond.initialized RJ6, Cond.code yJ6_bitCount_0f7a4 cJ6_bitCount_0f7a4 1 (some .int), Cond.constant RJ6 265 (1431655765), Cond.constant RJ6 266 (858993459), Cond.constant RJ6 267 (252645135), Cond.methodLink RX2 110 yX2_goOn, Cond.instanceMethod yX2_goOn, Cond.selects RX2 yX2_goOn yX2_goOn, Cond.methodLink RX2 132 yX1_giveBack, Cond.instanceMethod yX1_giveBack]
def wsX2_goOn_r3 : List Cond := [Cond.selects RX1 yX1_giveBack yX1_giveBack, Cond.code yX1_giveBack cX1_giveBack 3 none, Cond.fieldLink RX1 23 "GroupSeats$Row" "backs" "I"]
def wsX2_goOn : List Cond := .code yX2_goOn cX2_goOn 8 (some .int) :: ((wsX2_goOn_r1 ++ (wsX2_goOn_r2 ++ wsX2_goOn_r3)) ++ wsX00 ++ wsX20 ++ wsX10)
def wsX2_goThrough_r1 : List Cond := [Cond.fieldLink RX2 69 "GroupSeats$Party" "size" "I", Cond.fieldLink RX2 104 "GroupSeats" "failures" "I", Cond.fieldLink RX2 66 "GroupSeats" "bookings" "I", Cond.methodLink RX2 110 yX2_goOn, Cond.instanceMethod yX2_goOn, Cond.selects RX2 yX2_goOn yX2_goOn, Cond.initialized RX2, Cond.code yX2_goOn cX2_goOn 8 (some .int), Cond.fieldLink RX2 70 "GroupSeats$Party" "mode" "I", Cond.fieldLink RX2 11 "GroupSeats" "rows" "[LGroupSeats$Row;", Cond.fieldLink RX2 62 "GroupSeats$Party" "numbers" "[I", Cond.fieldLink RX2 95 "GroupSeats$Row" "holds" "I", Cond.fieldLink RX2 101 "GroupSeats" "mostHeld" "I", Cond.methodLink RX2 118 Lib.Math.max.name, Cond.static Lib.Math.max.name, Cond.initialized "java/lang/Math", Cond.code Lib.Math.max.name Lib.Math.max.code 2 (some .int), Cond.methodLink RX2 114 yX2_obstacleAt, Cond.instanceMethod yX2_obstacleAt, Cond.selects RX2 yX2_obstacleAt yX2_obstacleAt, Cond.code yX2_obstacleAt cX2_obstacleAt 4 (some .int), Cond.fieldLink RX2 59 "GroupSeats$Party" "listed" "I", Cond.methodLink RX2 31 yX2_isRow, Cond.static yX2_isRow]
def wsX2_goThrough_r2 : List Cond := [Cond.code yX2_isRow cX2_isRow 1 (some .boolean), Cond.methodLink RX2 35 yX1_isOpen, Cond.instanceMethod yX1_isOpen, Cond.selects RX1 yX1_isOpen yX1_isOpen, Cond.initialized RX1, Cond.code yX1_isOpen cX1_isOpen 1 (some .boolean), Cond.fieldLink RX1 15 "GroupSeats$Row" "size" "I", Cond.methodLink RX2 124 yX1_take, Cond.instanceMethod yX1_take, Cond.selects RX1 yX1_take yX1_take, Cond.code yX1_take cX1_take 7 (some .int), Cond.fieldLink RX1 19 "GroupSeats$Row" "sideBySide" "Z", Cond.fieldLink RX1 9 "GroupSeats$Row" "owners" "[I", Cond.methodLink RX1 26 yX1_bestStretch, Cond.instanceMethod yX1_bestStretch, Cond.selects RX1 yX1_bestStretch yX1_bestStretch, Cond.code yX1_bestStretch cX1_bestStretch 6 (some .int), Cond.methodLink RX2 127 yJ6_bitCount_0f7a4, Cond.static yJ6_bitCount_0f7a4, Cond.initialized RJ6, Cond.code yJ6_bitCount_0f7a4 cJ6_bitCount_0f7a4 1 (some .int), Cond.constant RJ6 265 (1431655765), Cond.constant RJ6 266 (858993459), Cond.constant RJ6 267 (252645135)]
def wsX2_goThrough_r3 : List Cond := [Cond.methodLink RX2 132 yX1_giveBack, Cond.instanceMethod yX1_giveBack, Cond.selects RX1 yX1_giveBack yX1_giveBack, Cond.code yX1_giveBack cX1_giveBack 3 none, Cond.fieldLink RX1 23 "GroupSeats$Row" "backs" "I"]
def wsX2_goThrough : List Cond := .code yX2_goThrough cX2_goThrough 4 (some .int) :: ((wsX2_goThrough_r1 ++ (wsX2_goThrough_r2 ++ wsX2_goThrough_r3)) ++ wsX00 ++ wsX20 ++ wsX10)
def wsX2_tryThoseWaiting_r1 : List Cond := [Cond.fieldLink RX2 77 "GroupSeats" "waiters" "I", Cond.fieldLink RX2 21 "GroupSeats" "queue" "[LGroupSeats$Party;", Cond.fieldLink RX2 66 "GroupSeats" "bookings" "I", Cond.methodLink RX2 73 yX2_goThrough, Cond.instanceMethod yX2_goThrough, Cond.selects RX2 yX2_goThrough yX2_goThrough, Cond.initialized RX2, Cond.code yX2_goThrough cX2_goThrough 4 (some .int), Cond.fieldLink RX2 69 "GroupSeats$Party" "size" "I", Cond.fieldLink RX2 104 "GroupSeats" "failures" "I", Cond.methodLink RX2 110 yX2_goOn, Cond.instanceMethod yX2_goOn, Cond.selects RX2 yX2_goOn yX2_goOn, Cond.code yX2_goOn cX2_goOn 8 (some .int), Cond.fieldLink RX2 70 "GroupSeats$Party" "mode" "I", Cond.fieldLink RX2 11 "GroupSeats" "rows" "[LGroupSeats$Row;", Cond.fieldLink RX2 62 "GroupSeats$Party" "numbers" "[I", Cond.fieldLink RX2 95 "GroupSeats$Row" "holds" "I", Cond.fieldLink RX2 101 "GroupSeats" "mostHeld" "I", Cond.methodLink RX2 118 Lib.Math.max.name, Cond.static Lib.Math.max.name, Cond.initialized "java/lang/Math", Cond.code Lib.Math.max.name Lib.Math.max.code 2 (some .int), Cond.methodLink RX2 114 yX2_obstacleAt]
def wsX2_tryThoseWaiting_r2 : List Cond := [Cond.instanceMethod yX2_obstacleAt, Cond.selects RX2 yX2_obstacleAt yX2_obstacleAt, Cond.code yX2_obstacleAt cX2_obstacleAt 4 (some .int), Cond.fieldLink RX2 59 "GroupSeats$Party" "listed" "I", Cond.methodLink RX2 31 yX2_isRow, Cond.static yX2_isRow, Cond.code yX2_isRow cX2_isRow 1 (some .boolean), Cond.methodLink RX2 35 yX1_isOpen, Cond.instanceMethod yX1_isOpen, Cond.selects RX1 yX1_isOpen yX1_isOpen, Cond.initialized RX1, Cond.code yX1_isOpen cX1_isOpen 1 (some .boolean), Cond.fieldLink RX1 15 "GroupSeats$Row" "size" "I", Cond.methodLink RX2 124 yX1_take, Cond.instanceMethod yX1_take, Cond.selects RX1 yX1_take yX1_take, Cond.code yX1_take cX1_take 7 (some .int), Cond.fieldLink RX1 19 "GroupSeats$Row" "sideBySide" "Z", Cond.fieldLink RX1 9 "GroupSeats$Row" "owners" "[I", Cond.methodLink RX1 26 yX1_bestStretch, Cond.instanceMethod yX1_bestStretch, Cond.selects RX1 yX1_bestStretch yX1_bestStretch, Cond.code yX1_bestStretch cX1_bestStretch 6 (some .int), Cond.methodLink RX2 127 yJ6_bitCount_0f7a4]
def wsX2_tryThoseWaiting_r3 : List Cond := [Cond.static yJ6_bitCount_0f7a4, Cond.initialized RJ6, Cond.code yJ6_bitCount_0f7a4 cJ6_bitCount_0f7a4 1 (some .int), Cond.constant RJ6 265 (1431655765), Cond.constant RJ6 266 (858993459), Cond.constant RJ6 267 (252645135), Cond.methodLink RX2 132 yX1_giveBack, Cond.instanceMethod yX1_giveBack, Cond.selects RX1 yX1_giveBack yX1_giveBack, Cond.code yX1_giveBack cX1_giveBack 3 none, Cond.fieldLink RX1 23 "GroupSeats$Row" "backs" "I"]
def wsX2_tryThoseWaiting : List Cond := .code yX2_tryThoseWaiting cX2_tryThoseWaiting 5 (some .int) :: ((wsX2_tryThoseWaiting_r1 ++ (wsX2_tryThoseWaiting_r2 ++ wsX2_tryThoseWaiting_r3)) ++ wsX20 ++ wsX00 ++ wsX10)
def wsX2_open_r1 : List Cond := [Cond.fieldLink RX2 11 "GroupSeats" "rows" "[LGroupSeats$Row;", Cond.methodLink RX2 31 yX2_isRow, Cond.static yX2_isRow, Cond.initialized RX2, Cond.code yX2_isRow cX2_isRow 1 (some .boolean), Cond.methodLink RX2 35 yX1_isOpen, Cond.instanceMethod yX1_isOpen, Cond.selects RX1 yX1_isOpen yX1_isOpen, Cond.initialized RX1, Cond.code yX1_isOpen cX1_isOpen 1 (some .boolean), Cond.fieldLink RX1 15 "GroupSeats$Row" "size" "I", Cond.methodLink RX2 39 yX1_begin, Cond.instanceMethod yX1_begin, Cond.selects RX1 yX1_begin yX1_begin, Cond.code yX1_begin cX1_begin 3 none, Cond.fieldLink RX1 19 "GroupSeats$Row" "sideBySide" "Z", Cond.fieldLink RX1 23 "GroupSeats$Row" "backs" "I", Cond.fieldLink RX1 9 "GroupSeats$Row" "owners" "[I", Cond.methodLink RX2 43 yX2_tryThoseWaiting, Cond.instanceMethod yX2_tryThoseWaiting, Cond.selects RX2 yX2_tryThoseWaiting yX2_tryThoseWaiting, Cond.code yX2_tryThoseWaiting cX2_tryThoseWaiting 5 (some .int), Cond.fieldLink RX2 77 "GroupSeats" "waiters" "I", Cond.fieldLink RX2 21 "GroupSeats" "queue" "[LGroupSeats$Party;"]
def wsX2_open_r2 : List Cond := [Cond.fieldLink RX2 66 "GroupSeats" "bookings" "I", Cond.methodLink RX2 73 yX2_goThrough, Cond.instanceMethod yX2_goThrough, Cond.selects RX2 yX2_goThrough yX2_goThrough, Cond.code yX2_goThrough cX2_goThrough 4 (some .int), Cond.fieldLink RX2 69 "GroupSeats$Party" "size" "I", Cond.fieldLink RX2 104 "GroupSeats" "failures" "I", Cond.methodLink RX2 110 yX2_goOn, Cond.instanceMethod yX2_goOn, Cond.selects RX2 yX2_goOn yX2_goOn, Cond.code yX2_goOn cX2_goOn 8 (some .int), Cond.fieldLink RX2 70 "GroupSeats$Party" "mode" "I", Cond.fieldLink RX2 62 "GroupSeats$Party" "numbers" "[I", Cond.fieldLink RX2 95 "GroupSeats$Row" "holds" "I", Cond.fieldLink RX2 101 "GroupSeats" "mostHeld" "I", Cond.methodLink RX2 118 Lib.Math.max.name, Cond.static Lib.Math.max.name, Cond.initialized "java/lang/Math", Cond.code Lib.Math.max.name Lib.Math.max.code 2 (some .int), Cond.methodLink RX2 114 yX2_obstacleAt, Cond.instanceMethod yX2_obstacleAt, Cond.selects RX2 yX2_obstacleAt yX2_obstacleAt, Cond.code yX2_obstacleAt cX2_obstacleAt 4 (some .int), Cond.fieldLink RX2 59 "GroupSeats$Party" "listed" "I"]
def wsX2_open_r3 : List Cond := [Cond.methodLink RX2 124 yX1_take, Cond.instanceMethod yX1_take, Cond.selects RX1 yX1_take yX1_take, Cond.code yX1_take cX1_take 7 (some .int), Cond.methodLink RX1 26 yX1_bestStretch, Cond.instanceMethod yX1_bestStretch, Cond.selects RX1 yX1_bestStretch yX1_bestStretch, Cond.code yX1_bestStretch cX1_bestStretch 6 (some .int), Cond.methodLink RX2 127 yJ6_bitCount_0f7a4, Cond.static yJ6_bitCount_0f7a4, Cond.initialized RJ6, Cond.code yJ6_bitCount_0f7a4 cJ6_bitCount_0f7a4 1 (some .int), Cond.constant RJ6 265 (1431655765), Cond.constant RJ6 266 (858993459), Cond.constant RJ6 267 (252645135), Cond.methodLink RX2 132 yX1_giveBack, Cond.instanceMethod yX1_giveBack, Cond.selects RX1 yX1_giveBack yX1_giveBack, Cond.code yX1_giveBack cX1_giveBack 3 none]
def wsX2_open : List Cond := .code yX2_open cX2_open 3 (some .int) :: ((wsX2_open_r1 ++ (wsX2_open_r2 ++ wsX2_open_r3)) ++ wsX20 ++ wsX10 ++ wsX00)
def wsX2_shut : List Cond := .code yX2_shut cX2_shut 4 (some .int) :: ([.fieldLink RX2 11 "GroupSeats" "rows" "[LGroupSeats$Row;", .fieldLink RX2 51 "GroupSeats$Row" "size" "I", .methodLink RX2 31 yX2_isRow, .static yX2_isRow, .initialized RX2, .code yX2_isRow cX2_isRow 1 (some .boolean), .methodLink RX2 35 yX1_isOpen, .instanceMethod yX1_isOpen, .selects RX1 yX1_isOpen yX1_isOpen, .initialized RX1, .code yX1_isOpen cX1_isOpen 1 (some .boolean), .fieldLink RX1 15 "GroupSeats$Row" "size" "I", .methodLink RX2 47 yX1_seatsOf, .instanceMethod yX1_seatsOf, .selects RX1 yX1_seatsOf yX1_seatsOf, .code yX1_seatsOf cX1_seatsOf 4 (some .int), .fieldLink RX1 9 "GroupSeats$Row" "owners" "[I"] ++ wsX20 ++ wsX10)
def wsX2_strict : List Cond := .code yX2_strict cX2_strict 4 (some .int) :: ([.fieldLink RX2 11 "GroupSeats" "rows" "[LGroupSeats$Row;", .fieldLink RX2 55 "GroupSeats$Row" "sideBySide" "Z", .methodLink RX2 31 yX2_isRow, .static yX2_isRow, .initialized RX2, .code yX2_isRow cX2_isRow 1 (some .boolean), .methodLink RX2 35 yX1_isOpen, .instanceMethod yX1_isOpen, .selects RX1 yX1_isOpen yX1_isOpen, .initialized RX1, .code yX1_isOpen cX1_isOpen 1 (some .boolean), .fieldLink RX1 15 "GroupSeats$Row" "size" "I"] ++ wsX20 ++ wsX10)
def wsX2_list : List Cond := .code yX2_list cX2_list 2 (some .int) :: ([.fieldLink RX2 26 "GroupSeats" "coming" "LGroupSeats$Party;", .fieldLink RX2 59 "GroupSeats$Party" "listed" "I", .fieldLink RX2 62 "GroupSeats$Party" "numbers" "[I"] ++ wsX20 ++ wsX00)
def wsX2_queueUp : List Cond := .code yX2_queueUp cX2_queueUp 2 none :: ([.fieldLink RX2 21 "GroupSeats" "queue" "[LGroupSeats$Party;", .fieldLink RX2 77 "GroupSeats" "waiters" "I", .fieldLink RX2 26 "GroupSeats" "coming" "LGroupSeats$Party;"] ++ wsX20)
def wsX2_book_r1 : List Cond := [Cond.fieldLink RX2 26 "GroupSeats" "coming" "LGroupSeats$Party;", Cond.fieldLink RX2 59 "GroupSeats$Party" "listed" "I", Cond.fieldLink RX2 66 "GroupSeats" "bookings" "I", Cond.fieldLink RX2 69 "GroupSeats$Party" "size" "I", Cond.fieldLink RX2 70 "GroupSeats$Party" "mode" "I", Cond.fieldLink RX2 77 "GroupSeats" "waiters" "I", Cond.methodLink RX2 73 yX2_goThrough, Cond.instanceMethod yX2_goThrough, Cond.selects RX2 yX2_goThrough yX2_goThrough, Cond.initialized RX2, Cond.code yX2_goThrough cX2_goThrough 4 (some .int), Cond.fieldLink RX2 104 "GroupSeats" "failures" "I", Cond.methodLink RX2 110 yX2_goOn, Cond.instanceMethod yX2_goOn, Cond.selects RX2 yX2_goOn yX2_goOn, Cond.code yX2_goOn cX2_goOn 8 (some .int), Cond.fieldLink RX2 11 "GroupSeats" "rows" "[LGroupSeats$Row;", Cond.fieldLink RX2 62 "GroupSeats$Party" "numbers" "[I", Cond.fieldLink RX2 95 "GroupSeats$Row" "holds" "I", Cond.fieldLink RX2 101 "GroupSeats" "mostHeld" "I", Cond.methodLink RX2 118 Lib.Math.max.name, Cond.static Lib.Math.max.name, Cond.initialized "java/lang/Math", Cond.code Lib.Math.max.name Lib.Math.max.code 2 (some .int)]
def wsX2_book_r2 : List Cond := [Cond.methodLink RX2 114 yX2_obstacleAt, Cond.instanceMethod yX2_obstacleAt, Cond.selects RX2 yX2_obstacleAt yX2_obstacleAt, Cond.code yX2_obstacleAt cX2_obstacleAt 4 (some .int), Cond.methodLink RX2 31 yX2_isRow, Cond.static yX2_isRow, Cond.code yX2_isRow cX2_isRow 1 (some .boolean), Cond.methodLink RX2 35 yX1_isOpen, Cond.instanceMethod yX1_isOpen, Cond.selects RX1 yX1_isOpen yX1_isOpen, Cond.initialized RX1, Cond.code yX1_isOpen cX1_isOpen 1 (some .boolean), Cond.fieldLink RX1 15 "GroupSeats$Row" "size" "I", Cond.methodLink RX2 124 yX1_take, Cond.instanceMethod yX1_take, Cond.selects RX1 yX1_take yX1_take, Cond.code yX1_take cX1_take 7 (some .int), Cond.fieldLink RX1 19 "GroupSeats$Row" "sideBySide" "Z", Cond.fieldLink RX1 9 "GroupSeats$Row" "owners" "[I", Cond.methodLink RX1 26 yX1_bestStretch, Cond.instanceMethod yX1_bestStretch, Cond.selects RX1 yX1_bestStretch yX1_bestStretch, Cond.code yX1_bestStretch cX1_bestStretch 6 (some .int), Cond.methodLink RX2 127 yJ6_bitCount_0f7a4]
def wsX2_book_r3 : List Cond := [Cond.static yJ6_bitCount_0f7a4, Cond.initialized RJ6, Cond.code yJ6_bitCount_0f7a4 cJ6_bitCount_0f7a4 1 (some .int), Cond.constant RJ6 265 (1431655765), Cond.constant RJ6 266 (858993459), Cond.constant RJ6 267 (252645135), Cond.methodLink RX2 132 yX1_giveBack, Cond.instanceMethod yX1_giveBack, Cond.selects RX1 yX1_giveBack yX1_giveBack, Cond.code yX1_giveBack cX1_giveBack 3 none, Cond.fieldLink RX1 23 "GroupSeats$Row" "backs" "I", Cond.methodLink RX2 80 yX2_queueUp, Cond.instanceMethod yX2_queueUp, Cond.selects RX2 yX2_queueUp yX2_queueUp, Cond.code yX2_queueUp cX2_queueUp 2 none, Cond.fieldLink RX2 21 "GroupSeats" "queue" "[LGroupSeats$Party;"]
def wsX2_book : List Cond := .code yX2_book cX2_book 4 (some .int) :: ((wsX2_book_r1 ++ (wsX2_book_r2 ++ wsX2_book_r3)) ++ wsX20 ++ wsX00 ++ wsX10)
def wsX2_isBooking : List Cond := .code yX2_isBooking cX2_isBooking 2 (some .boolean) :: ([.fieldLink RX2 66 "GroupSeats" "bookings" "I"] ++ wsX20)
def wsX2_cancel_r1 : List Cond := [Cond.fieldLink RX2 15 "GroupSeats" "cancelled" "[Z", Cond.fieldLink RX2 11 "GroupSeats" "rows" "[LGroupSeats$Row;", Cond.methodLink RX2 83 yX2_isBooking, Cond.instanceMethod yX2_isBooking, Cond.selects RX2 yX2_isBooking yX2_isBooking, Cond.initialized RX2, Cond.code yX2_isBooking cX2_isBooking 2 (some .boolean), Cond.fieldLink RX2 66 "GroupSeats" "bookings" "I", Cond.methodLink RX2 86 yX1_freeSeatsOf, Cond.instanceMethod yX1_freeSeatsOf, Cond.selects RX1 yX1_freeSeatsOf yX1_freeSeatsOf, Cond.initialized RX1, Cond.code yX1_freeSeatsOf cX1_freeSeatsOf 3 none, Cond.fieldLink RX1 15 "GroupSeats$Row" "size" "I", Cond.fieldLink RX1 9 "GroupSeats$Row" "owners" "[I", Cond.methodLink RX2 43 yX2_tryThoseWaiting, Cond.instanceMethod yX2_tryThoseWaiting, Cond.selects RX2 yX2_tryThoseWaiting yX2_tryThoseWaiting, Cond.code yX2_tryThoseWaiting cX2_tryThoseWaiting 5 (some .int), Cond.fieldLink RX2 77 "GroupSeats" "waiters" "I", Cond.fieldLink RX2 21 "GroupSeats" "queue" "[LGroupSeats$Party;", Cond.methodLink RX2 73 yX2_goThrough, Cond.instanceMethod yX2_goThrough, Cond.selects RX2 yX2_goThrough yX2_goThrough]
def wsX2_cancel_r2 : List Cond := [Cond.code yX2_goThrough cX2_goThrough 4 (some .int), Cond.fieldLink RX2 69 "GroupSeats$Party" "size" "I", Cond.fieldLink RX2 104 "GroupSeats" "failures" "I", Cond.methodLink RX2 110 yX2_goOn, Cond.instanceMethod yX2_goOn, Cond.selects RX2 yX2_goOn yX2_goOn, Cond.code yX2_goOn cX2_goOn 8 (some .int), Cond.fieldLink RX2 70 "GroupSeats$Party" "mode" "I", Cond.fieldLink RX2 62 "GroupSeats$Party" "numbers" "[I", Cond.fieldLink RX2 95 "GroupSeats$Row" "holds" "I", Cond.fieldLink RX2 101 "GroupSeats" "mostHeld" "I", Cond.methodLink RX2 118 Lib.Math.max.name, Cond.static Lib.Math.max.name, Cond.initialized "java/lang/Math", Cond.code Lib.Math.max.name Lib.Math.max.code 2 (some .int), Cond.methodLink RX2 114 yX2_obstacleAt, Cond.instanceMethod yX2_obstacleAt, Cond.selects RX2 yX2_obstacleAt yX2_obstacleAt, Cond.code yX2_obstacleAt cX2_obstacleAt 4 (some .int), Cond.fieldLink RX2 59 "GroupSeats$Party" "listed" "I", Cond.methodLink RX2 31 yX2_isRow, Cond.static yX2_isRow, Cond.code yX2_isRow cX2_isRow 1 (some .boolean), Cond.methodLink RX2 35 yX1_isOpen]
def wsX2_cancel_r3 : List Cond := [Cond.instanceMethod yX1_isOpen, Cond.selects RX1 yX1_isOpen yX1_isOpen, Cond.code yX1_isOpen cX1_isOpen 1 (some .boolean), Cond.methodLink RX2 124 yX1_take, Cond.instanceMethod yX1_take, Cond.selects RX1 yX1_take yX1_take, Cond.code yX1_take cX1_take 7 (some .int), Cond.fieldLink RX1 19 "GroupSeats$Row" "sideBySide" "Z", Cond.methodLink RX1 26 yX1_bestStretch, Cond.instanceMethod yX1_bestStretch, Cond.selects RX1 yX1_bestStretch yX1_bestStretch, Cond.code yX1_bestStretch cX1_bestStretch 6 (some .int), Cond.methodLink RX2 127 yJ6_bitCount_0f7a4, Cond.static yJ6_bitCount_0f7a4, Cond.initialized RJ6, Cond.code yJ6_bitCount_0f7a4 cJ6_bitCount_0f7a4 1 (some .int), Cond.constant RJ6 265 (1431655765), Cond.constant RJ6 266 (858993459), Cond.constant RJ6 267 (252645135), Cond.methodLink RX2 132 yX1_giveBack, Cond.instanceMethod yX1_giveBack, Cond.selects RX1 yX1_giveBack yX1_giveBack, Cond.code yX1_giveBack cX1_giveBack 3 none, Cond.fieldLink RX1 23 "GroupSeats$Row" "backs" "I"]
def wsX2_cancel : List Cond := .code yX2_cancel cX2_cancel 3 (some .int) :: ((wsX2_cancel_r1 ++ (wsX2_cancel_r2 ++ wsX2_cancel_r3)) ++ wsX20 ++ wsX10 ++ wsX00)
def wsX2_isWaiting : List Cond := .code yX2_isWaiting cX2_isWaiting 2 (some .boolean) :: ([.fieldLink RX2 77 "GroupSeats" "waiters" "I"] ++ wsX20)
def wsX2_leave : List Cond := .code yX2_leave cX2_leave 4 (some .int) :: ([.fieldLink RX2 21 "GroupSeats" "queue" "[LGroupSeats$Party;", .fieldLink RX2 77 "GroupSeats" "waiters" "I", .fieldLink RX2 69 "GroupSeats$Party" "size" "I", .methodLink RX2 89 yX2_isWaiting, .instanceMethod yX2_isWaiting, .selects RX2 yX2_isWaiting yX2_isWaiting, .initialized RX2, .code yX2_isWaiting cX2_isWaiting 2 (some .boolean)] ++ wsX20 ++ wsX00)
def wsX2_seat : List Cond := .code yX2_seat cX2_seat 3 (some .int) :: ([.fieldLink RX2 11 "GroupSeats" "rows" "[LGroupSeats$Row;", .fieldLink RX2 51 "GroupSeats$Row" "size" "I", .fieldLink RX2 92 "GroupSeats$Row" "owners" "[I", .methodLink RX2 31 yX2_isRow, .static yX2_isRow, .initialized RX2, .code yX2_isRow cX2_isRow 1 (some .boolean)] ++ wsX20 ++ wsX10)
def wsX2_has : List Cond := .code yX2_has cX2_has 3 (some .int) :: ([.fieldLink RX2 11 "GroupSeats" "rows" "[LGroupSeats$Row;", .methodLink RX2 83 yX2_isBooking, .instanceMethod yX2_isBooking, .selects RX2 yX2_isBooking yX2_isBooking, .initialized RX2, .code yX2_isBooking cX2_isBooking 2 (some .boolean), .fieldLink RX2 66 "GroupSeats" "bookings" "I", .methodLink RX2 31 yX2_isRow, .static yX2_isRow, .code yX2_isRow cX2_isRow 1 (some .boolean), .methodLink RX2 47 yX1_seatsOf, .instanceMethod yX1_seatsOf, .selects RX1 yX1_seatsOf yX1_seatsOf, .initialized RX1, .code yX1_seatsOf cX1_seatsOf 4 (some .int), .fieldLink RX1 15 "GroupSeats$Row" "size" "I", .fieldLink RX1 9 "GroupSeats$Row" "owners" "[I"] ++ wsX20 ++ wsX10)
def wsX2_about : List Cond := .code yX2_about cX2_about 4 (some .int) :: ([.fieldLink RX2 11 "GroupSeats" "rows" "[LGroupSeats$Row;", .fieldLink RX2 95 "GroupSeats$Row" "holds" "I", .fieldLink RX2 98 "GroupSeats$Row" "backs" "I", .fieldLink RX2 51 "GroupSeats$Row" "size" "I", .methodLink RX2 31 yX2_isRow, .static yX2_isRow, .initialized RX2, .code yX2_isRow cX2_isRow 1 (some .boolean), .methodLink RX2 35 yX1_isOpen, .instanceMethod yX1_isOpen, .selects RX1 yX1_isOpen yX1_isOpen, .initialized RX1, .code yX1_isOpen cX1_isOpen 1 (some .boolean), .fieldLink RX1 15 "GroupSeats$Row" "size" "I", .methodLink RX2 47 yX1_seatsOf, .instanceMethod yX1_seatsOf, .selects RX1 yX1_seatsOf yX1_seatsOf, .code yX1_seatsOf cX1_seatsOf 4 (some .int), .fieldLink RX1 9 "GroupSeats$Row" "owners" "[I"] ++ wsX20 ++ wsX10)
def wsX2_openRows : List Cond := .code yX2_openRows cX2_openRows 3 (some .int) :: ([.fieldLink RX2 11 "GroupSeats" "rows" "[LGroupSeats$Row;", .methodLink RX2 35 yX1_isOpen, .instanceMethod yX1_isOpen, .selects RX1 yX1_isOpen yX1_isOpen, .initialized RX1, .code yX1_isOpen cX1_isOpen 1 (some .boolean), .fieldLink RX1 15 "GroupSeats$Row" "size" "I"] ++ wsX20 ++ wsX10)
def wsX2_told : List Cond := .code yX2_told cX2_told 2 (some .int) :: ([.fieldLink RX2 66 "GroupSeats" "bookings" "I", .fieldLink RX2 77 "GroupSeats" "waiters" "I", .fieldLink RX2 101 "GroupSeats" "mostHeld" "I", .fieldLink RX2 104 "GroupSeats" "failures" "I", .fieldLink RX2 26 "GroupSeats" "coming" "LGroupSeats$Party;", .fieldLink RX2 59 "GroupSeats$Party" "listed" "I", .methodLink RX2 107 yX2_openRows, .instanceMethod yX2_openRows, .selects RX2 yX2_openRows yX2_openRows, .initialized RX2, .code yX2_openRows cX2_openRows 3 (some .int), .fieldLink RX2 11 "GroupSeats" "rows" "[LGroupSeats$Row;", .methodLink RX2 35 yX1_isOpen, .instanceMethod yX1_isOpen, .selects RX1 yX1_isOpen yX1_isOpen, .initialized RX1, .code yX1_isOpen cX1_isOpen 1 (some .boolean), .fieldLink RX1 15 "GroupSeats$Row" "size" "I"] ++ wsX20 ++ wsX00 ++ wsX10)
def wsX2_waiting : List Cond := .code yX2_waiting cX2_waiting 2 (some .int) :: ([.fieldLink RX2 21 "GroupSeats" "queue" "[LGroupSeats$Party;", .fieldLink RX2 69 "GroupSeats$Party" "size" "I", .methodLink RX2 89 yX2_isWaiting, .instanceMethod yX2_isWaiting, .selects RX2 yX2_isWaiting yX2_isWaiting, .initialized RX2, .code yX2_isWaiting cX2_isWaiting 2 (some .boolean), .fieldLink RX2 77 "GroupSeats" "waiters" "I"] ++ wsX20 ++ wsX00)
def wsX3_init : List Cond := .code yX3_init cX3_init 1 none :: ([.methodLink RX3 1 objectInit, .instanceMethod objectInit, .code objectInit ⟨#[0xb1]⟩ 1 none, .arrayClass .boolean, .fieldLink RX3 7 "GroupSeatsModel" "isOpen" "[Z", .fieldLink RX3 13 "GroupSeatsModel" "isStrict" "[Z", .arrayClass .int, .fieldLink RX3 16 "GroupSeatsModel" "size" "[I", .fieldLink RX3 20 "GroupSeatsModel" "holds" "[I", .fieldLink RX3 23 "GroupSeatsModel" "back" "[I", .fieldLink RX3 26 "GroupSeatsModel" "seats" "[I", .fieldLink RX3 29 "GroupSeatsModel" "list" "[I", .fieldLink RX3 32 "GroupSeatsModel" "isCancelled" "[Z", .fieldLink RX3 35 "GroupSeatsModel" "people" "[I", .fieldLink RX3 38 "GroupSeatsModel" "lists" "[I", .fieldLink RX3 41 "GroupSeatsModel" "lengths" "[I", .fieldLink RX3 44 "GroupSeatsModel" "way" "[I", .fieldLink RX3 47 "GroupSeatsModel" "taken" "[I"] ++ wsX30)
def wsX3_in : List Cond := .code yX3_in cX3_in 3 (some .boolean) :: ([])
def wsX3_mark : List Cond := .code yX3_mark cX3_mark 6 (some .int) :: ([.fieldLink RX3 16 "GroupSeatsModel" "size" "[I", .fieldLink RX3 26 "GroupSeatsModel" "seats" "[I", .fieldLink RX3 54 "GroupSeatsModel" "bookings" "I"] ++ wsX30)
def wsX3_stretch : List Cond := .code yX3_stretch cX3_stretch 6 (some .int) :: ([.fieldLink RX3 57 "GroupSeatsModel" "found" "I", .fieldLink RX3 16 "GroupSeatsModel" "size" "[I", .fieldLink RX3 26 "GroupSeatsModel" "seats" "[I"] ++ wsX30)
def wsX3_takes : List Cond := .code yX3_takes cX3_takes 4 (some .int) :: ([.fieldLink RX3 13 "GroupSeatsModel" "isStrict" "[Z", .fieldLink RX3 57 "GroupSeatsModel" "found" "I", .methodLink RX3 60 yX3_mark, .instanceMethod yX3_mark, .selects RX3 yX3_mark yX3_mark, .initialized RX3, .code yX3_mark cX3_mark 6 (some .int), .fieldLink RX3 16 "GroupSeatsModel" "size" "[I", .fieldLink RX3 26 "GroupSeatsModel" "seats" "[I", .fieldLink RX3 54 "GroupSeatsModel" "bookings" "I", .methodLink RX3 64 yX3_stretch, .instanceMethod yX3_stretch, .selects RX3 yX3_stretch yX3_stretch, .code yX3_stretch cX3_stretch 6 (some .int)] ++ wsX30)
def wsX3_giveBack : List Cond := .code yX3_giveBack cX3_giveBack 3 none :: ([.fieldLink RX3 23 "GroupSeatsModel" "back" "[I", .fieldLink RX3 44 "GroupSeatsModel" "way" "[I", .fieldLink RX3 47 "GroupSeatsModel" "taken" "[I", .fieldLink RX3 26 "GroupSeatsModel" "seats" "[I", .fieldLink RX3 54 "GroupSeatsModel" "bookings" "I"] ++ wsX30)
def wsX3_goes_r1 : List Cond := [Cond.fieldLink RX3 68 "GroupSeatsModel" "wayLong" "I", Cond.fieldLink RX3 44 "GroupSeatsModel" "way" "[I", Cond.fieldLink RX3 7 "GroupSeatsModel" "isOpen" "[Z", Cond.fieldLink RX3 20 "GroupSeatsModel" "holds" "[I", Cond.fieldLink RX3 47 "GroupSeatsModel" "taken" "[I", Cond.fieldLink RX3 74 "GroupSeatsModel" "most" "I", Cond.fieldLink RX3 54 "GroupSeatsModel" "bookings" "I", Cond.fieldLink RX3 81 "GroupSeatsModel" "failures" "I", Cond.methodLink RX3 71 yX3_takes, Cond.instanceMethod yX3_takes, Cond.selects RX3 yX3_takes yX3_takes, Cond.initialized RX3, Cond.code yX3_takes cX3_takes 4 (some .int), Cond.fieldLink RX3 13 "GroupSeatsModel" "isStrict" "[Z", Cond.fieldLink RX3 57 "GroupSeatsModel" "found" "I", Cond.methodLink RX3 60 yX3_mark, Cond.instanceMethod yX3_mark, Cond.selects RX3 yX3_mark yX3_mark, Cond.code yX3_mark cX3_mark 6 (some .int), Cond.fieldLink RX3 16 "GroupSeatsModel" "size" "[I", Cond.fieldLink RX3 26 "GroupSeatsModel" "seats" "[I", Cond.methodLink RX3 64 yX3_stretch, Cond.instanceMethod yX3_stretch, Cond.selects RX3 yX3_stretch yX3_stretch]
def wsX3_goes_r2 : List Cond := [Cond.code yX3_stretch cX3_stretch 6 (some .int), Cond.methodLink RX3 77 yX3_giveBack, Cond.instanceMethod yX3_giveBack, Cond.selects RX3 yX3_giveBack yX3_giveBack, Cond.code yX3_giveBack cX3_giveBack 3 none, Cond.fieldLink RX3 23 "GroupSeatsModel" "back" "[I"]
def wsX3_goes : List Cond := .code yX3_goes cX3_goes 8 (some .int) :: ((wsX3_goes_r1 ++ wsX3_goes_r2) ++ wsX30)
def wsX3_removed : List Cond := .code yX3_removed cX3_removed 4 none :: ([.fieldLink RX3 84 "GroupSeatsModel" "waits" "I", .fieldLink RX3 35 "GroupSeatsModel" "people" "[I", .fieldLink RX3 41 "GroupSeatsModel" "lengths" "[I", .fieldLink RX3 38 "GroupSeatsModel" "lists" "[I"] ++ wsX30)
def wsX3_tried_r1 : List Cond := [Cond.fieldLink RX3 84 "GroupSeatsModel" "waits" "I", Cond.fieldLink RX3 54 "GroupSeatsModel" "bookings" "I", Cond.fieldLink RX3 41 "GroupSeatsModel" "lengths" "[I", Cond.fieldLink RX3 68 "GroupSeatsModel" "wayLong" "I", Cond.fieldLink RX3 44 "GroupSeatsModel" "way" "[I", Cond.fieldLink RX3 38 "GroupSeatsModel" "lists" "[I", Cond.fieldLink RX3 35 "GroupSeatsModel" "people" "[I", Cond.methodLink RX3 87 yX3_goes, Cond.instanceMethod yX3_goes, Cond.selects RX3 yX3_goes yX3_goes, Cond.initialized RX3, Cond.code yX3_goes cX3_goes 8 (some .int), Cond.fieldLink RX3 7 "GroupSeatsModel" "isOpen" "[Z", Cond.fieldLink RX3 20 "GroupSeatsModel" "holds" "[I", Cond.fieldLink RX3 47 "GroupSeatsModel" "taken" "[I", Cond.fieldLink RX3 74 "GroupSeatsModel" "most" "I", Cond.fieldLink RX3 81 "GroupSeatsModel" "failures" "I", Cond.methodLink RX3 71 yX3_takes, Cond.instanceMethod yX3_takes, Cond.selects RX3 yX3_takes yX3_takes, Cond.code yX3_takes cX3_takes 4 (some .int), Cond.fieldLink RX3 13 "GroupSeatsModel" "isStrict" "[Z", Cond.fieldLink RX3 57 "GroupSeatsModel" "found" "I", Cond.methodLink RX3 60 yX3_mark]
def wsX3_tried_r2 : List Cond := [Cond.instanceMethod yX3_mark, Cond.selects RX3 yX3_mark yX3_mark, Cond.code yX3_mark cX3_mark 6 (some .int), Cond.fieldLink RX3 16 "GroupSeatsModel" "size" "[I", Cond.fieldLink RX3 26 "GroupSeatsModel" "seats" "[I", Cond.methodLink RX3 64 yX3_stretch, Cond.instanceMethod yX3_stretch, Cond.selects RX3 yX3_stretch yX3_stretch, Cond.code yX3_stretch cX3_stretch 6 (some .int), Cond.methodLink RX3 77 yX3_giveBack, Cond.instanceMethod yX3_giveBack, Cond.selects RX3 yX3_giveBack yX3_giveBack, Cond.code yX3_giveBack cX3_giveBack 3 none, Cond.fieldLink RX3 23 "GroupSeatsModel" "back" "[I", Cond.methodLink RX3 90 yX3_removed, Cond.instanceMethod yX3_removed, Cond.selects RX3 yX3_removed yX3_removed, Cond.code yX3_removed cX3_removed 4 none]
def wsX3_tried : List Cond := .code yX3_tried cX3_tried 4 (some .int) :: ((wsX3_tried_r1 ++ wsX3_tried_r2) ++ wsX30)
def wsX3_open_r1 : List Cond := [Cond.fieldLink RX3 50 "GroupSeatsModel" "thrown" "I", Cond.fieldLink RX3 7 "GroupSeatsModel" "isOpen" "[Z", Cond.fieldLink RX3 13 "GroupSeatsModel" "isStrict" "[Z", Cond.fieldLink RX3 16 "GroupSeatsModel" "size" "[I", Cond.fieldLink RX3 20 "GroupSeatsModel" "holds" "[I", Cond.fieldLink RX3 23 "GroupSeatsModel" "back" "[I", Cond.fieldLink RX3 26 "GroupSeatsModel" "seats" "[I", Cond.methodLink RX3 93 yX3_in, Cond.static yX3_in, Cond.initialized RX3, Cond.code yX3_in cX3_in 3 (some .boolean), Cond.methodLink RX3 97 yX3_tried, Cond.instanceMethod yX3_tried, Cond.selects RX3 yX3_tried yX3_tried, Cond.code yX3_tried cX3_tried 4 (some .int), Cond.fieldLink RX3 84 "GroupSeatsModel" "waits" "I", Cond.fieldLink RX3 54 "GroupSeatsModel" "bookings" "I", Cond.fieldLink RX3 41 "GroupSeatsModel" "lengths" "[I", Cond.fieldLink RX3 68 "GroupSeatsModel" "wayLong" "I", Cond.fieldLink RX3 44 "GroupSeatsModel" "way" "[I", Cond.fieldLink RX3 38 "GroupSeatsModel" "lists" "[I", Cond.fieldLink RX3 35 "GroupSeatsModel" "people" "[I", Cond.methodLink RX3 87 yX3_goes, Cond.instanceMethod yX3_goes]
def wsX3_open_r2 : List Cond := [Cond.selects RX3 yX3_goes yX3_goes, Cond.code yX3_goes cX3_goes 8 (some .int), Cond.fieldLink RX3 47 "GroupSeatsModel" "taken" "[I", Cond.fieldLink RX3 74 "GroupSeatsModel" "most" "I", Cond.fieldLink RX3 81 "GroupSeatsModel" "failures" "I", Cond.methodLink RX3 71 yX3_takes, Cond.instanceMethod yX3_takes, Cond.selects RX3 yX3_takes yX3_takes, Cond.code yX3_takes cX3_takes 4 (some .int), Cond.fieldLink RX3 57 "GroupSeatsModel" "found" "I", Cond.methodLink RX3 60 yX3_mark, Cond.instanceMethod yX3_mark, Cond.selects RX3 yX3_mark yX3_mark, Cond.code yX3_mark cX3_mark 6 (some .int), Cond.methodLink RX3 64 yX3_stretch, Cond.instanceMethod yX3_stretch, Cond.selects RX3 yX3_stretch yX3_stretch, Cond.code yX3_stretch cX3_stretch 6 (some .int), Cond.methodLink RX3 77 yX3_giveBack, Cond.instanceMethod yX3_giveBack, Cond.selects RX3 yX3_giveBack yX3_giveBack, Cond.code yX3_giveBack cX3_giveBack 3 none, Cond.methodLink RX3 90 yX3_removed, Cond.instanceMethod yX3_removed]
def wsX3_open_r3 : List Cond := [Cond.selects RX3 yX3_removed yX3_removed, Cond.code yX3_removed cX3_removed 4 none]
def wsX3_open : List Cond := .code yX3_open cX3_open 4 (some .int) :: ((wsX3_open_r1 ++ (wsX3_open_r2 ++ wsX3_open_r3)) ++ wsX30)
def wsX3_free : List Cond := .code yX3_free cX3_free 4 (some .int) :: ([.fieldLink RX3 16 "GroupSeatsModel" "size" "[I", .fieldLink RX3 26 "GroupSeatsModel" "seats" "[I"] ++ wsX30)
def wsX3_shut : List Cond := .code yX3_shut cX3_shut 2 (some .int) :: ([.fieldLink RX3 50 "GroupSeatsModel" "thrown" "I", .fieldLink RX3 7 "GroupSeatsModel" "isOpen" "[Z", .fieldLink RX3 16 "GroupSeatsModel" "size" "[I", .methodLink RX3 93 yX3_in, .static yX3_in, .initialized RX3, .code yX3_in cX3_in 3 (some .boolean), .methodLink RX3 101 yX3_free, .instanceMethod yX3_free, .selects RX3 yX3_free yX3_free, .code yX3_free cX3_free 4 (some .int), .fieldLink RX3 26 "GroupSeatsModel" "seats" "[I"] ++ wsX30)
def wsX3_strict : List Cond := .code yX3_strict cX3_strict 4 (some .int) :: ([.fieldLink RX3 50 "GroupSeatsModel" "thrown" "I", .fieldLink RX3 7 "GroupSeatsModel" "isOpen" "[Z", .fieldLink RX3 13 "GroupSeatsModel" "isStrict" "[Z", .methodLink RX3 93 yX3_in, .static yX3_in, .initialized RX3, .code yX3_in cX3_in 3 (some .boolean)] ++ wsX30)
def wsX3_list : List Cond := .code yX3_list cX3_list 2 (some .int) :: ([.fieldLink RX3 50 "GroupSeatsModel" "thrown" "I", .fieldLink RX3 105 "GroupSeatsModel" "listed" "I", .fieldLink RX3 29 "GroupSeatsModel" "list" "[I", .methodLink RX3 93 yX3_in, .static yX3_in, .initialized RX3, .code yX3_in cX3_in 3 (some .boolean)] ++ wsX30)
def wsX3_book_r1 : List Cond := [Cond.fieldLink RX3 50 "GroupSeatsModel" "thrown" "I", Cond.fieldLink RX3 105 "GroupSeatsModel" "listed" "I", Cond.fieldLink RX3 54 "GroupSeatsModel" "bookings" "I", Cond.fieldLink RX3 68 "GroupSeatsModel" "wayLong" "I", Cond.fieldLink RX3 44 "GroupSeatsModel" "way" "[I", Cond.fieldLink RX3 29 "GroupSeatsModel" "list" "[I", Cond.fieldLink RX3 84 "GroupSeatsModel" "waits" "I", Cond.fieldLink RX3 35 "GroupSeatsModel" "people" "[I", Cond.fieldLink RX3 41 "GroupSeatsModel" "lengths" "[I", Cond.fieldLink RX3 38 "GroupSeatsModel" "lists" "[I", Cond.methodLink RX3 93 yX3_in, Cond.static yX3_in, Cond.initialized RX3, Cond.code yX3_in cX3_in 3 (some .boolean), Cond.methodLink RX3 87 yX3_goes, Cond.instanceMethod yX3_goes, Cond.selects RX3 yX3_goes yX3_goes, Cond.code yX3_goes cX3_goes 8 (some .int), Cond.fieldLink RX3 7 "GroupSeatsModel" "isOpen" "[Z", Cond.fieldLink RX3 20 "GroupSeatsModel" "holds" "[I", Cond.fieldLink RX3 47 "GroupSeatsModel" "taken" "[I", Cond.fieldLink RX3 74 "GroupSeatsModel" "most" "I", Cond.fieldLink RX3 81 "GroupSeatsModel" "failures" "I", Cond.methodLink RX3 71 yX3_takes]
def wsX3_book_r2 : List Cond := [Cond.instanceMethod yX3_takes, Cond.selects RX3 yX3_takes yX3_takes, Cond.code yX3_takes cX3_takes 4 (some .int), Cond.fieldLink RX3 13 "GroupSeatsModel" "isStrict" "[Z", Cond.fieldLink RX3 57 "GroupSeatsModel" "found" "I", Cond.methodLink RX3 60 yX3_mark, Cond.instanceMethod yX3_mark, Cond.selects RX3 yX3_mark yX3_mark, Cond.code yX3_mark cX3_mark 6 (some .int), Cond.fieldLink RX3 16 "GroupSeatsModel" "size" "[I", Cond.fieldLink RX3 26 "GroupSeatsModel" "seats" "[I", Cond.methodLink RX3 64 yX3_stretch, Cond.instanceMethod yX3_stretch, Cond.selects RX3 yX3_stretch yX3_stretch, Cond.code yX3_stretch cX3_stretch 6 (some .int), Cond.methodLink RX3 77 yX3_giveBack, Cond.instanceMethod yX3_giveBack, Cond.selects RX3 yX3_giveBack yX3_giveBack, Cond.code yX3_giveBack cX3_giveBack 3 none, Cond.fieldLink RX3 23 "GroupSeatsModel" "back" "[I"]
def wsX3_book : List Cond := .code yX3_book cX3_book 5 (some .int) :: ((wsX3_book_r1 ++ wsX3_book_r2) ++ wsX30)
def wsX3_cancel_r1 : List Cond := [Cond.fieldLink RX3 50 "GroupSeatsModel" "thrown" "I", Cond.fieldLink RX3 54 "GroupSeatsModel" "bookings" "I", Cond.fieldLink RX3 32 "GroupSeatsModel" "isCancelled" "[Z", Cond.fieldLink RX3 26 "GroupSeatsModel" "seats" "[I", Cond.methodLink RX3 93 yX3_in, Cond.static yX3_in, Cond.initialized RX3, Cond.code yX3_in cX3_in 3 (some .boolean), Cond.methodLink RX3 97 yX3_tried, Cond.instanceMethod yX3_tried, Cond.selects RX3 yX3_tried yX3_tried, Cond.code yX3_tried cX3_tried 4 (some .int), Cond.fieldLink RX3 84 "GroupSeatsModel" "waits" "I", Cond.fieldLink RX3 41 "GroupSeatsModel" "lengths" "[I", Cond.fieldLink RX3 68 "GroupSeatsModel" "wayLong" "I", Cond.fieldLink RX3 44 "GroupSeatsModel" "way" "[I", Cond.fieldLink RX3 38 "GroupSeatsModel" "lists" "[I", Cond.fieldLink RX3 35 "GroupSeatsModel" "people" "[I", Cond.methodLink RX3 87 yX3_goes, Cond.instanceMethod yX3_goes, Cond.selects RX3 yX3_goes yX3_goes, Cond.code yX3_goes cX3_goes 8 (some .int), Cond.fieldLink RX3 7 "GroupSeatsModel" "isOpen" "[Z", Cond.fieldLink RX3 20 "GroupSeatsModel" "holds" "[I"]
def wsX3_cancel_r2 : List Cond := [Cond.fieldLink RX3 47 "GroupSeatsModel" "taken" "[I", Cond.fieldLink RX3 74 "GroupSeatsModel" "most" "I", Cond.fieldLink RX3 81 "GroupSeatsModel" "failures" "I", Cond.methodLink RX3 71 yX3_takes, Cond.instanceMethod yX3_takes, Cond.selects RX3 yX3_takes yX3_takes, Cond.code yX3_takes cX3_takes 4 (some .int), Cond.fieldLink RX3 13 "GroupSeatsModel" "isStrict" "[Z", Cond.fieldLink RX3 57 "GroupSeatsModel" "found" "I", Cond.methodLink RX3 60 yX3_mark, Cond.instanceMethod yX3_mark, Cond.selects RX3 yX3_mark yX3_mark, Cond.code yX3_mark cX3_mark 6 (some .int), Cond.fieldLink RX3 16 "GroupSeatsModel" "size" "[I", Cond.methodLink RX3 64 yX3_stretch, Cond.instanceMethod yX3_stretch, Cond.selects RX3 yX3_stretch yX3_stretch, Cond.code yX3_stretch cX3_stretch 6 (some .int), Cond.methodLink RX3 77 yX3_giveBack, Cond.instanceMethod yX3_giveBack, Cond.selects RX3 yX3_giveBack yX3_giveBack, Cond.code yX3_giveBack cX3_giveBack 3 none, Cond.fieldLink RX3 23 "GroupSeatsModel" "back" "[I", Cond.methodLink RX3 90 yX3_removed]
def wsX3_cancel_r3 : List Cond := [Cond.instanceMethod yX3_removed, Cond.selects RX3 yX3_removed yX3_removed, Cond.code yX3_removed cX3_removed 4 none]
def wsX3_cancel : List Cond := .code yX3_cancel cX3_cancel 3 (some .int) :: ((wsX3_cancel_r1 ++ (wsX3_cancel_r2 ++ wsX3_cancel_r3)) ++ wsX30)
def wsX3_leave : List Cond := .code yX3_leave cX3_leave 3 (some .int) :: ([.fieldLink RX3 50 "GroupSeatsModel" "thrown" "I", .fieldLink RX3 84 "GroupSeatsModel" "waits" "I", .fieldLink RX3 35 "GroupSeatsModel" "people" "[I", .methodLink RX3 93 yX3_in, .static yX3_in, .initialized RX3, .code yX3_in cX3_in 3 (some .boolean), .methodLink RX3 90 yX3_removed, .instanceMethod yX3_removed, .selects RX3 yX3_removed yX3_removed, .code yX3_removed cX3_removed 4 none, .fieldLink RX3 41 "GroupSeatsModel" "lengths" "[I", .fieldLink RX3 38 "GroupSeatsModel" "lists" "[I"] ++ wsX30)
def wsX3_seat : List Cond := .code yX3_seat cX3_seat 3 (some .int) :: ([.fieldLink RX3 50 "GroupSeatsModel" "thrown" "I", .fieldLink RX3 7 "GroupSeatsModel" "isOpen" "[Z", .fieldLink RX3 16 "GroupSeatsModel" "size" "[I", .fieldLink RX3 26 "GroupSeatsModel" "seats" "[I", .methodLink RX3 93 yX3_in, .static yX3_in, .initialized RX3, .code yX3_in cX3_in 3 (some .boolean)] ++ wsX30)
def wsX3_has : List Cond := .code yX3_has cX3_has 5 (some .int) :: ([.fieldLink RX3 50 "GroupSeatsModel" "thrown" "I", .fieldLink RX3 54 "GroupSeatsModel" "bookings" "I", .fieldLink RX3 7 "GroupSeatsModel" "isOpen" "[Z", .fieldLink RX3 16 "GroupSeatsModel" "size" "[I", .fieldLink RX3 26 "GroupSeatsModel" "seats" "[I", .methodLink RX3 93 yX3_in, .static yX3_in, .initialized RX3, .code yX3_in cX3_in 3 (some .boolean)] ++ wsX30)
def wsX3_about : List Cond := .code yX3_about cX3_about 3 (some .int) :: ([.fieldLink RX3 50 "GroupSeatsModel" "thrown" "I", .fieldLink RX3 7 "GroupSeatsModel" "isOpen" "[Z", .fieldLink RX3 20 "GroupSeatsModel" "holds" "[I", .fieldLink RX3 23 "GroupSeatsModel" "back" "[I", .fieldLink RX3 16 "GroupSeatsModel" "size" "[I", .methodLink RX3 93 yX3_in, .static yX3_in, .initialized RX3, .code yX3_in cX3_in 3 (some .boolean), .methodLink RX3 101 yX3_free, .instanceMethod yX3_free, .selects RX3 yX3_free yX3_free, .code yX3_free cX3_free 4 (some .int), .fieldLink RX3 26 "GroupSeatsModel" "seats" "[I"] ++ wsX30)
def wsX3_told : List Cond := .code yX3_told cX3_told 4 (some .int) :: ([.fieldLink RX3 50 "GroupSeatsModel" "thrown" "I", .fieldLink RX3 7 "GroupSeatsModel" "isOpen" "[Z", .fieldLink RX3 54 "GroupSeatsModel" "bookings" "I", .fieldLink RX3 84 "GroupSeatsModel" "waits" "I", .fieldLink RX3 74 "GroupSeatsModel" "most" "I", .fieldLink RX3 81 "GroupSeatsModel" "failures" "I", .fieldLink RX3 105 "GroupSeatsModel" "listed" "I"] ++ wsX30)
def wsX3_waiting : List Cond := .code yX3_waiting cX3_waiting 2 (some .int) :: ([.fieldLink RX3 50 "GroupSeatsModel" "thrown" "I", .fieldLink RX3 84 "GroupSeatsModel" "waits" "I", .fieldLink RX3 35 "GroupSeatsModel" "people" "[I", .methodLink RX3 93 yX3_in, .static yX3_in, .initialized RX3, .code yX3_in cX3_in 3 (some .boolean)] ++ wsX30)
def wsJ9_max_7cf53 : List Cond := .code yJ9_max_7cf53 cJ9_max_7cf53 2 (some .int) :: ([])
def wsL_law_r1 : List Cond := [Cond.classLink RL 7 RX2, Cond.instantiable RX2 8, Cond.initialized RX2, Cond.classLink RL 10 RX3, Cond.instantiable RX3 21, Cond.initialized RX3, Cond.methodLink RL 9 yX2_init, Cond.instanceMethod yX2_init, Cond.code yX2_init cX2_init 2 none, Cond.methodLink RX2 1 objectInit, Cond.instanceMethod objectInit, Cond.code objectInit ⟨#[0xb1]⟩ 1 none, Cond.classLink RX2 9 RX1, Cond.fieldLink RX2 11 "GroupSeats" "rows" "[LGroupSeats$Row;", Cond.arrayClass .boolean, Cond.fieldLink RX2 15 "GroupSeats" "cancelled" "[Z", Cond.classLink RX2 19 RX0, Cond.fieldLink RX2 21 "GroupSeats" "queue" "[LGroupSeats$Party;", Cond.instantiable RX0 4, Cond.initialized RX0, Cond.fieldLink RX2 26 "GroupSeats" "coming" "LGroupSeats$Party;", Cond.instantiable RX1 5, Cond.initialized RX1, Cond.instanceMethod yX0_init]
def wsL_law_r2 : List Cond := [Cond.code yX0_init cX0_init 1 none, Cond.methodLink RX0 3 objectInit, Cond.arrayClass .int, Cond.fieldLink RX0 9 "GroupSeats$Party" "numbers" "[I", Cond.instanceMethod yX1_init, Cond.code yX1_init cX1_init 1 none, Cond.methodLink RX1 3 objectInit, Cond.fieldLink RX1 9 "GroupSeats$Row" "owners" "[I", Cond.methodLink RL 12 yX3_init, Cond.instanceMethod yX3_init, Cond.code yX3_init cX3_init 1 none, Cond.methodLink RX3 1 objectInit, Cond.fieldLink RX3 7 "GroupSeatsModel" "isOpen" "[Z", Cond.fieldLink RX3 13 "GroupSeatsModel" "isStrict" "[Z", Cond.fieldLink RX3 16 "GroupSeatsModel" "size" "[I", Cond.fieldLink RX3 20 "GroupSeatsModel" "holds" "[I", Cond.fieldLink RX3 23 "GroupSeatsModel" "back" "[I", Cond.fieldLink RX3 26 "GroupSeatsModel" "seats" "[I", Cond.fieldLink RX3 29 "GroupSeatsModel" "list" "[I", Cond.fieldLink RX3 32 "GroupSeatsModel" "isCancelled" "[Z", Cond.fieldLink RX3 35 "GroupSeatsModel" "people" "[I", Cond.fieldLink RX3 38 "GroupSeatsModel" "lists" "[I", Cond.fieldLink RX3 41 "GroupSeatsModel" "lengths" "[I", Cond.fieldLink RX3 44 "GroupSeatsModel" "way" "[I"]
def wsL_law_r3 : List Cond := [Cond.fieldLink RX3 47 "GroupSeatsModel" "taken" "[I", Cond.methodLink RL 13 yX2_open, Cond.instanceMethod yX2_open, Cond.selects RX2 yX2_open yX2_open, Cond.code yX2_open cX2_open 3 (some .int), Cond.methodLink RX2 31 yX2_isRow, Cond.static yX2_isRow, Cond.code yX2_isRow cX2_isRow 1 (some .boolean), Cond.methodLink RX2 35 yX1_isOpen, Cond.instanceMethod yX1_isOpen, Cond.selects RX1 yX1_isOpen yX1_isOpen, Cond.code yX1_isOpen cX1_isOpen 1 (some .boolean), Cond.fieldLink RX1 15 "GroupSeats$Row" "size" "I", Cond.methodLink RX2 39 yX1_begin, Cond.instanceMethod yX1_begin, Cond.selects RX1 yX1_begin yX1_begin, Cond.code yX1_begin cX1_begin 3 none, Cond.fieldLink RX1 19 "GroupSeats$Row" "sideBySide" "Z", Cond.fieldLink RX1 23 "GroupSeats$Row" "backs" "I", Cond.methodLink RX2 43 yX2_tryThoseWaiting, Cond.instanceMethod yX2_tryThoseWaiting, Cond.selects RX2 yX2_tryThoseWaiting yX2_tryThoseWaiting, Cond.code yX2_tryThoseWaiting cX2_tryThoseWaiting 5 (some .int), Cond.fieldLink RX2 77 "GroupSeats" "waiters" "I"]
def wsL_law_r4 : List Cond := [Cond.fieldLink RX2 66 "GroupSeats" "bookings" "I", Cond.methodLink RX2 73 yX2_goThrough, Cond.instanceMethod yX2_goThrough, Cond.selects RX2 yX2_goThrough yX2_goThrough, Cond.code yX2_goThrough cX2_goThrough 4 (some .int), Cond.fieldLink RX2 69 "GroupSeats$Party" "size" "I", Cond.fieldLink RX2 104 "GroupSeats" "failures" "I", Cond.methodLink RX2 110 yX2_goOn, Cond.instanceMethod yX2_goOn, Cond.selects RX2 yX2_goOn yX2_goOn, Cond.code yX2_goOn cX2_goOn 8 (some .int), Cond.fieldLink RX2 70 "GroupSeats$Party" "mode" "I", Cond.fieldLink RX2 62 "GroupSeats$Party" "numbers" "[I", Cond.fieldLink RX2 95 "GroupSeats$Row" "holds" "I", Cond.fieldLink RX2 101 "GroupSeats" "mostHeld" "I", Cond.methodLink RX2 118 Lib.Math.max.name, Cond.static Lib.Math.max.name, Cond.initialized "java/lang/Math", Cond.code Lib.Math.max.name Lib.Math.max.code 2 (some .int), Cond.methodLink RX2 114 yX2_obstacleAt, Cond.instanceMethod yX2_obstacleAt, Cond.selects RX2 yX2_obstacleAt yX2_obstacleAt, Cond.code yX2_obstacleAt cX2_obstacleAt 4 (some .int), Cond.fieldLink RX2 59 "GroupSeats$Party" "listed" "I"]
def wsL_law_r5 : List Cond := [Cond.methodLink RX2 124 yX1_take, Cond.instanceMethod yX1_take, Cond.selects RX1 yX1_take yX1_take, Cond.code yX1_take cX1_take 7 (some .int), Cond.methodLink RX1 26 yX1_bestStretch, Cond.instanceMethod yX1_bestStretch, Cond.selects RX1 yX1_bestStretch yX1_bestStretch, Cond.code yX1_bestStretch cX1_bestStretch 6 (some .int), Cond.methodLink RX2 127 yJ6_bitCount_0f7a4, Cond.static yJ6_bitCount_0f7a4, Cond.initialized RJ6, Cond.code yJ6_bitCount_0f7a4 cJ6_bitCount_0f7a4 1 (some .int), Cond.constant RJ6 265 (1431655765), Cond.constant RJ6 266 (858993459), Cond.constant RJ6 267 (252645135), Cond.methodLink RX2 132 yX1_giveBack, Cond.instanceMethod yX1_giveBack, Cond.selects RX1 yX1_giveBack yX1_giveBack, Cond.code yX1_giveBack cX1_giveBack 3 none, Cond.methodLink RL 17 yX3_open, Cond.instanceMethod yX3_open, Cond.selects RX3 yX3_open yX3_open, Cond.code yX3_open cX3_open 4 (some .int), Cond.fieldLink RX3 50 "GroupSeatsModel" "thrown" "I"]
def wsL_law_r6 : List Cond := [Cond.methodLink RX3 93 yX3_in, Cond.static yX3_in, Cond.code yX3_in cX3_in 3 (some .boolean), Cond.methodLink RX3 97 yX3_tried, Cond.instanceMethod yX3_tried, Cond.selects RX3 yX3_tried yX3_tried, Cond.code yX3_tried cX3_tried 4 (some .int), Cond.fieldLink RX3 84 "GroupSeatsModel" "waits" "I", Cond.fieldLink RX3 54 "GroupSeatsModel" "bookings" "I", Cond.fieldLink RX3 68 "GroupSeatsModel" "wayLong" "I", Cond.methodLink RX3 87 yX3_goes, Cond.instanceMethod yX3_goes, Cond.selects RX3 yX3_goes yX3_goes, Cond.code yX3_goes cX3_goes 8 (some .int), Cond.fieldLink RX3 74 "GroupSeatsModel" "most" "I", Cond.fieldLink RX3 81 "GroupSeatsModel" "failures" "I", Cond.methodLink RX3 71 yX3_takes, Cond.instanceMethod yX3_takes, Cond.selects RX3 yX3_takes yX3_takes, Cond.code yX3_takes cX3_takes 4 (some .int), Cond.fieldLink RX3 57 "GroupSeatsModel" "found" "I", Cond.methodLink RX3 60 yX3_mark, Cond.instanceMethod yX3_mark, Cond.selects RX3 yX3_mark yX3_mark]
def wsL_law_r7 : List Cond := [Cond.code yX3_mark cX3_mark 6 (some .int), Cond.methodLink RX3 64 yX3_stretch, Cond.instanceMethod yX3_stretch, Cond.selects RX3 yX3_stretch yX3_stretch, Cond.code yX3_stretch cX3_stretch 6 (some .int), Cond.methodLink RX3 77 yX3_giveBack, Cond.instanceMethod yX3_giveBack, Cond.selects RX3 yX3_giveBack yX3_giveBack, Cond.code yX3_giveBack cX3_giveBack 3 none, Cond.methodLink RX3 90 yX3_removed, Cond.instanceMethod yX3_removed, Cond.selects RX3 yX3_removed yX3_removed, Cond.code yX3_removed cX3_removed 4 none, Cond.methodLink RL 18 yX2_shut, Cond.instanceMethod yX2_shut, Cond.selects RX2 yX2_shut yX2_shut, Cond.code yX2_shut cX2_shut 4 (some .int), Cond.fieldLink RX2 51 "GroupSeats$Row" "size" "I", Cond.methodLink RX2 47 yX1_seatsOf, Cond.instanceMethod yX1_seatsOf, Cond.selects RX1 yX1_seatsOf yX1_seatsOf, Cond.code yX1_seatsOf cX1_seatsOf 4 (some .int), Cond.methodLink RL 22 yX3_shut, Cond.instanceMethod yX3_shut]
def wsL_law_r8 : List Cond := [Cond.selects RX3 yX3_shut yX3_shut, Cond.code yX3_shut cX3_shut 2 (some .int), Cond.methodLink RX3 101 yX3_free, Cond.instanceMethod yX3_free, Cond.selects RX3 yX3_free yX3_free, Cond.code yX3_free cX3_free 4 (some .int), Cond.methodLink RL 23 yX2_strict, Cond.instanceMethod yX2_strict, Cond.selects RX2 yX2_strict yX2_strict, Cond.code yX2_strict cX2_strict 4 (some .int), Cond.fieldLink RX2 55 "GroupSeats$Row" "sideBySide" "Z", Cond.methodLink RL 27 yX3_strict, Cond.instanceMethod yX3_strict, Cond.selects RX3 yX3_strict yX3_strict, Cond.code yX3_strict cX3_strict 4 (some .int), Cond.methodLink RL 28 yX2_list, Cond.instanceMethod yX2_list, Cond.selects RX2 yX2_list yX2_list, Cond.code yX2_list cX2_list 2 (some .int), Cond.methodLink RL 31 yX3_list, Cond.instanceMethod yX3_list, Cond.selects RX3 yX3_list yX3_list, Cond.code yX3_list cX3_list 2 (some .int), Cond.fieldLink RX3 105 "GroupSeatsModel" "listed" "I"]
def wsL_law_r9 : List Cond := [Cond.methodLink RL 32 yX2_book, Cond.instanceMethod yX2_book, Cond.selects RX2 yX2_book yX2_book, Cond.code yX2_book cX2_book 4 (some .int), Cond.methodLink RX2 80 yX2_queueUp, Cond.instanceMethod yX2_queueUp, Cond.selects RX2 yX2_queueUp yX2_queueUp, Cond.code yX2_queueUp cX2_queueUp 2 none, Cond.methodLink RL 35 yX3_book, Cond.instanceMethod yX3_book, Cond.selects RX3 yX3_book yX3_book, Cond.code yX3_book cX3_book 5 (some .int), Cond.methodLink RL 36 yX2_cancel, Cond.instanceMethod yX2_cancel, Cond.selects RX2 yX2_cancel yX2_cancel, Cond.code yX2_cancel cX2_cancel 3 (some .int), Cond.methodLink RX2 83 yX2_isBooking, Cond.instanceMethod yX2_isBooking, Cond.selects RX2 yX2_isBooking yX2_isBooking, Cond.code yX2_isBooking cX2_isBooking 2 (some .boolean), Cond.methodLink RX2 86 yX1_freeSeatsOf, Cond.instanceMethod yX1_freeSeatsOf, Cond.selects RX1 yX1_freeSeatsOf yX1_freeSeatsOf, Cond.code yX1_freeSeatsOf cX1_freeSeatsOf 3 none]
def wsL_law_r10 : List Cond := [Cond.methodLink RL 39 yX3_cancel, Cond.instanceMethod yX3_cancel, Cond.selects RX3 yX3_cancel yX3_cancel, Cond.code yX3_cancel cX3_cancel 3 (some .int), Cond.methodLink RL 40 yX2_leave, Cond.instanceMethod yX2_leave, Cond.selects RX2 yX2_leave yX2_leave, Cond.code yX2_leave cX2_leave 4 (some .int), Cond.methodLink RX2 89 yX2_isWaiting, Cond.instanceMethod yX2_isWaiting, Cond.selects RX2 yX2_isWaiting yX2_isWaiting, Cond.code yX2_isWaiting cX2_isWaiting 2 (some .boolean), Cond.methodLink RL 43 yX3_leave, Cond.instanceMethod yX3_leave, Cond.selects RX3 yX3_leave yX3_leave, Cond.code yX3_leave cX3_leave 3 (some .int), Cond.methodLink RL 44 yX2_seat, Cond.instanceMethod yX2_seat, Cond.selects RX2 yX2_seat yX2_seat, Cond.code yX2_seat cX2_seat 3 (some .int), Cond.fieldLink RX2 92 "GroupSeats$Row" "owners" "[I", Cond.methodLink RL 47 yX3_seat, Cond.instanceMethod yX3_seat, Cond.selects RX3 yX3_seat yX3_seat]
def wsL_law_r11 : List Cond := [Cond.code yX3_seat cX3_seat 3 (some .int), Cond.methodLink RL 48 yX2_has, Cond.instanceMethod yX2_has, Cond.selects RX2 yX2_has yX2_has, Cond.code yX2_has cX2_has 3 (some .int), Cond.methodLink RL 51 yX3_has, Cond.instanceMethod yX3_has, Cond.selects RX3 yX3_has yX3_has, Cond.code yX3_has cX3_has 5 (some .int), Cond.methodLink RL 52 yX2_about, Cond.instanceMethod yX2_about, Cond.selects RX2 yX2_about yX2_about, Cond.code yX2_about cX2_about 4 (some .int), Cond.fieldLink RX2 98 "GroupSeats$Row" "backs" "I", Cond.methodLink RL 55 yX3_about, Cond.instanceMethod yX3_about, Cond.selects RX3 yX3_about yX3_about, Cond.code yX3_about cX3_about 3 (some .int), Cond.methodLink RL 56 yX2_told, Cond.instanceMethod yX2_told, Cond.selects RX2 yX2_told yX2_told, Cond.code yX2_told cX2_told 2 (some .int), Cond.methodLink RX2 107 yX2_openRows, Cond.instanceMethod yX2_openRows]
def wsL_law_r12 : List Cond := [Cond.selects RX2 yX2_openRows yX2_openRows, Cond.code yX2_openRows cX2_openRows 3 (some .int), Cond.methodLink RL 59 yX3_told, Cond.instanceMethod yX3_told, Cond.selects RX3 yX3_told yX3_told, Cond.code yX3_told cX3_told 4 (some .int), Cond.methodLink RL 60 yX2_waiting, Cond.instanceMethod yX2_waiting, Cond.selects RX2 yX2_waiting yX2_waiting, Cond.code yX2_waiting cX2_waiting 2 (some .int), Cond.methodLink RL 63 yX3_waiting, Cond.instanceMethod yX3_waiting, Cond.selects RX3 yX3_waiting yX3_waiting, Cond.code yX3_waiting cX3_waiting 2 (some .int)]
def wsL_law : List Cond := (wsL_law_r1 ++ (wsL_law_r2 ++ (wsL_law_r3 ++ (wsL_law_r4 ++ (wsL_law_r5 ++ (wsL_law_r6 ++ (wsL_law_r7 ++ (wsL_law_r8 ++ (wsL_law_r9 ++ (wsL_law_r10 ++ (wsL_law_r11 ++ wsL_law_r12))))))))))) ++ wsX20 ++ wsX30 ++ wsX00 ++ wsX10 ++ ([] : List Cond)
set_option maxRecDepth 20000 in
theorem wsL_law_in : ∀ w ∈ wsL_law, w ∈ lw_tbl := fun w h => (goodIn_p wsL_law [27, 30, 38, 59, 230, 109, 112, 116, 120, 124, 128, 132, 139, 136, 143, 147, 150, 157, 299, 302, 306, 310, 314, 318, 322, 326, 330, 161, 165, 334, 338, 169, 342, 173, 346, 177, 181, 350, 185, 189, 193, 354, 197, 201, 358, 205, 362, 209, 366, 213, 370, 217, 221, 374, 225, 378] (by decide +kernel) (by decide +kernel) w h).1
theorem inlX0 : ∀ w ∈ wsX00, w ∈ wsL_law := fun _ h => List.mem_append_left _ (List.mem_append_left _ (List.mem_append_right _ h))
theorem inX0 : ∀ w ∈ wsX00, w ∈ lw_tbl := fun w h => wsL_law_in w (inlX0 w h)
theorem inlX1 : ∀ w ∈ wsX10, w ∈ wsL_law := fun _ h => List.mem_append_left _ (List.mem_append_right _ h)
theorem inX1 : ∀ w ∈ wsX10, w ∈ lw_tbl := fun w h => wsL_law_in w (inlX1 w h)
theorem inlX2 : ∀ w ∈ wsX20, w ∈ wsL_law := fun _ h => List.mem_append_left _ (List.mem_append_left _ (List.mem_append_left _ (List.mem_append_left _ (List.mem_append_right _ h))))
theorem inX2 : ∀ w ∈ wsX20, w ∈ lw_tbl := fun w h => wsL_law_in w (inlX2 w h)
theorem inlX3 : ∀ w ∈ wsX30, w ∈ wsL_law := fun _ h => List.mem_append_left _ (List.mem_append_left _ (List.mem_append_left _ (List.mem_append_right _ h)))
theorem inX3 : ∀ w ∈ wsX30, w ∈ lw_tbl := fun w h => wsL_law_in w (inlX3 w h)
theorem inJ6 : ∀ w ∈ wsJ60, w ∈ lw_tbl := by decide +kernel
theorem inJ9 : ∀ w ∈ wsJ90, w ∈ lw_tbl := by decide +kernel
set_option maxRecDepth 20000 in
theorem ggX1_take_X1_bestStretch : GoodIn wsX1_take wsX1_bestStretch := goodIn_r _ [8, 2, 3, 9, 10, 11, 12, 13] rfl (by decide +kernel)
set_option maxRecDepth 20000 in
theorem gX1_take_X1_bestStretch : GoodIn wsX1_take (wsV RX1 26 RX1 yX1_bestStretch wsX1_bestStretch) := goodIn_app (goodIn_of _ (by decide +kernel)) ggX1_take_X1_bestStretch
set_option maxRecDepth 20000 in
theorem ggX2_init_X0_init : GoodIn wsX2_init wsX0_init := goodIn_r _ [16, 17, 2, 3, 18, 19, 32, 33, 34, 35] rfl (by decide +kernel)
set_option maxRecDepth 20000 in
theorem gX2_init_X0_init_n25 : GoodIn wsX2_init (wsX0_init) := ggX2_init_X0_init
set_option maxRecDepth 20000 in
theorem ggX2_init_X1_init : GoodIn wsX2_init wsX1_init := goodIn_r _ [21, 22, 2, 3, 18, 23, 36, 37, 38, 39, 40] rfl (by decide +kernel)
set_option maxRecDepth 20000 in
theorem gX2_init_X1_init_n30 : GoodIn wsX2_init (wsX1_init) := ggX2_init_X1_init
set_option maxRecDepth 20000 in
theorem ggX2_open_X2_isRow : GoodIn wsX2_open wsX2_isRow := goodIn_r _ [5] rfl (by decide +kernel)
set_option maxRecDepth 20000 in
theorem gX2_open_X2_isRow : GoodIn wsX2_open (va_wsS RX2 31 yX2_isRow wsX2_isRow) := goodIn_app (goodIn_of _ (by decide +kernel)) ggX2_open_X2_isRow
set_option maxRecDepth 20000 in
theorem ggX2_open_X1_isOpen : GoodIn wsX2_open wsX1_isOpen := goodIn_r _ [10, 11, 76, 77, 78, 79, 80] rfl (by decide +kernel)
set_option maxRecDepth 20000 in
theorem gX2_open_X1_isOpen : GoodIn wsX2_open (wsV RX2 35 RX1 yX1_isOpen wsX1_isOpen) := goodIn_app (goodIn_of _ (by decide +kernel)) ggX2_open_X1_isOpen
set_option maxRecDepth 20000 in
theorem ggX2_open_X1_begin : GoodIn wsX2_open wsX1_begin := goodIn_r _ [15, 11, 16, 17, 18, 76, 77, 78, 79, 80] rfl (by decide +kernel)
set_option maxRecDepth 20000 in
theorem gX2_open_X1_begin : GoodIn wsX2_open (wsV RX2 39 RX1 yX1_begin wsX1_begin) := goodIn_app (goodIn_of _ (by decide +kernel)) ggX2_open_X1_begin
set_option maxRecDepth 20000 in
theorem ggX2_open_X2_tryThoseWaiting : GoodIn wsX2_open wsX2_tryThoseWaiting := goodIn_r _ [22, 23, 24, 25, 26, 27, 28, 4, 29, 30, 31, 32, 33, 34, 35, 36, 1, 37, 38, 39, 40, 41, 42, 43, 44, 45, 46, 47, 48, 2, 3, 5, 6, 7, 8, 9, 10, 11, 49, 50, 51, 52, 16, 18, 53, 54, 55, 56, 57, 58, 59, 60, 61, 62, 63, 64, 65, 66, 67, 17, 68, 69, 70, 71, 72, 73, 74, 75, 81, 82, 83, 84, 76, 77, 78, 79, 80] rfl (by decide +kernel)
set_option maxRecDepth 20000 in
theorem gX2_open_X2_tryThoseWaiting : GoodIn wsX2_open (wsV RX2 43 RX2 yX2_tryThoseWaiting wsX2_tryThoseWaiting) := goodIn_app (goodIn_of _ (by decide +kernel)) ggX2_open_X2_tryThoseWaiting
set_option maxRecDepth 20000 in
theorem ggX2_shut_X2_isRow : GoodIn wsX2_shut wsX2_isRow := goodIn_r _ [6] rfl (by decide +kernel)
set_option maxRecDepth 20000 in
theorem gX2_shut_X2_isRow : GoodIn wsX2_shut (va_wsS RX2 31 yX2_isRow wsX2_isRow) := goodIn_app (goodIn_of _ (by decide +kernel)) ggX2_shut_X2_isRow
set_option maxRecDepth 20000 in
theorem ggX2_shut_X1_isOpen : GoodIn wsX2_shut wsX1_isOpen := goodIn_r _ [11, 12, 26, 27, 28, 29, 30] rfl (by decide +kernel)
set_option maxRecDepth 20000 in
theorem gX2_shut_X1_isOpen : GoodIn wsX2_shut (wsV RX2 35 RX1 yX1_isOpen wsX1_isOpen) := goodIn_app (goodIn_of _ (by decide +kernel)) ggX2_shut_X1_isOpen
set_option maxRecDepth 20000 in
theorem ggX2_shut_X1_seatsOf : GoodIn wsX2_shut wsX1_seatsOf := goodIn_r _ [16, 12, 17, 26, 27, 28, 29, 30] rfl (by decide +kernel)
set_option maxRecDepth 20000 in
theorem gX2_shut_X1_seatsOf : GoodIn wsX2_shut (wsV RX2 47 RX1 yX1_seatsOf wsX1_seatsOf) := goodIn_app (goodIn_of _ (by decide +kernel)) ggX2_shut_X1_seatsOf
set_option maxRecDepth 20000 in
theorem ggX2_strict_X2_isRow : GoodIn wsX2_strict wsX2_isRow := goodIn_r _ [6] rfl (by decide +kernel)
set_option maxRecDepth 20000 in
theorem gX2_strict_X2_isRow : GoodIn wsX2_strict (va_wsS RX2 31 yX2_isRow wsX2_isRow) := goodIn_app (goodIn_of _ (by decide +kernel)) ggX2_strict_X2_isRow
set_option maxRecDepth 20000 in
theorem ggX2_strict_X1_isOpen : GoodIn wsX2_strict wsX1_isOpen := goodIn_r _ [11, 12, 21, 22, 23, 24, 25] rfl (by decide +kernel)
set_option maxRecDepth 20000 in
theorem gX2_strict_X1_isOpen : GoodIn wsX2_strict (wsV RX2 35 RX1 yX1_isOpen wsX1_isOpen) := goodIn_app (goodIn_of _ (by decide +kernel)) ggX2_strict_X1_isOpen
set_option maxRecDepth 20000 in
theorem ggX2_book_X2_goThrough : GoodIn wsX2_book wsX2_goThrough := goodIn_r _ [11, 4, 12, 3, 13, 14, 15, 10, 16, 5, 17, 18, 19, 20, 21, 22, 23, 24, 25, 26, 27, 28, 2, 29, 30, 31, 32, 33, 34, 35, 36, 37, 38, 39, 40, 41, 42, 43, 44, 45, 46, 47, 48, 49, 50, 51, 52, 53, 54, 55, 56, 57, 58, 59, 73, 74, 75, 76, 65, 66, 67, 68, 69, 70, 71, 72, 77, 78, 79, 80, 81] rfl (by decide +kernel)
set_option maxRecDepth 20000 in
theorem gX2_book_X2_goThrough : GoodIn wsX2_book (wsV RX2 73 RX2 yX2_goThrough wsX2_goThrough) := goodIn_app (goodIn_of _ (by decide +kernel)) ggX2_book_X2_goThrough
set_option maxRecDepth 20000 in
theorem ggX2_book_X2_queueUp : GoodIn wsX2_book wsX2_queueUp := goodIn_r _ [63, 64, 6, 1, 65, 66, 67, 68, 69, 70, 71, 72] rfl (by decide +kernel)
set_option maxRecDepth 20000 in
theorem gX2_book_X2_queueUp : GoodIn wsX2_book (wsV RX2 80 RX2 yX2_queueUp wsX2_queueUp) := goodIn_app (goodIn_of _ (by decide +kernel)) ggX2_book_X2_queueUp
set_option maxRecDepth 20000 in
theorem ggX2_cancel_X2_isBooking : GoodIn wsX2_cancel wsX2_isBooking := goodIn_r _ [7, 8, 73, 74, 75, 76, 77, 78, 79, 80] rfl (by decide +kernel)
set_option maxRecDepth 20000 in
theorem gX2_cancel_X2_isBooking : GoodIn wsX2_cancel (wsV RX2 83 RX2 yX2_isBooking wsX2_isBooking) := goodIn_app (goodIn_of _ (by decide +kernel)) ggX2_cancel_X2_isBooking
set_option maxRecDepth 20000 in
theorem ggX2_cancel_X1_freeSeatsOf : GoodIn wsX2_cancel wsX1_freeSeatsOf := goodIn_r _ [13, 14, 15, 81, 82, 83, 84, 85] rfl (by decide +kernel)
set_option maxRecDepth 20000 in
theorem gX2_cancel_X1_freeSeatsOf : GoodIn wsX2_cancel (wsV RX2 86 RX1 yX1_freeSeatsOf wsX1_freeSeatsOf) := goodIn_app (goodIn_of _ (by decide +kernel)) ggX2_cancel_X1_freeSeatsOf
set_option maxRecDepth 20000 in
theorem ggX2_cancel_X2_tryThoseWaiting : GoodIn wsX2_cancel wsX2_tryThoseWaiting := goodIn_r _ [19, 20, 21, 8, 22, 23, 24, 6, 25, 26, 27, 28, 29, 30, 31, 32, 2, 33, 34, 35, 36, 37, 38, 39, 40, 41, 42, 43, 44, 45, 46, 47, 48, 49, 50, 12, 51, 14, 52, 53, 54, 55, 56, 15, 57, 58, 59, 60, 61, 62, 63, 64, 65, 66, 67, 68, 69, 70, 71, 72, 73, 74, 75, 76, 77, 78, 79, 80, 86, 87, 88, 89, 81, 82, 83, 84, 85] rfl (by decide +kernel)
set_option maxRecDepth 20000 in
theorem gX2_cancel_X2_tryThoseWaiting : GoodIn wsX2_cancel (wsV RX2 43 RX2 yX2_tryThoseWaiting wsX2_tryThoseWaiting) := goodIn_app (goodIn_of _ (by decide +kernel)) ggX2_cancel_X2_tryThoseWaiting
set_option maxRecDepth 20000 in
theorem ggX2_leave_X2_isWaiting : GoodIn wsX2_leave wsX2_isWaiting := goodIn_r _ [8, 2, 9, 10, 11, 12, 13, 14, 15, 16] rfl (by decide +kernel)
set_option maxRecDepth 20000 in
theorem gX2_leave_X2_isWaiting : GoodIn wsX2_leave (wsV RX2 89 RX2 yX2_isWaiting wsX2_isWaiting) := goodIn_app (goodIn_of _ (by decide +kernel)) ggX2_leave_X2_isWaiting
set_option maxRecDepth 20000 in
theorem ggX2_seat_X2_isRow : GoodIn wsX2_seat wsX2_isRow := goodIn_r _ [7] rfl (by decide +kernel)
set_option maxRecDepth 20000 in
theorem gX2_seat_X2_isRow : GoodIn wsX2_seat (va_wsS RX2 31 yX2_isRow wsX2_isRow) := goodIn_app (goodIn_of _ (by decide +kernel)) ggX2_seat_X2_isRow
set_option maxRecDepth 20000 in
theorem ggX2_has_X2_isBooking : GoodIn wsX2_has wsX2_isBooking := goodIn_r _ [6, 7, 18, 19, 20, 21, 22, 23, 24, 25] rfl (by decide +kernel)
set_option maxRecDepth 20000 in
theorem gX2_has_X2_isBooking : GoodIn wsX2_has (wsV RX2 83 RX2 yX2_isBooking wsX2_isBooking) := goodIn_app (goodIn_of _ (by decide +kernel)) ggX2_has_X2_isBooking
set_option maxRecDepth 20000 in
theorem ggX2_has_X2_isRow : GoodIn wsX2_has wsX2_isRow := goodIn_r _ [10] rfl (by decide +kernel)
set_option maxRecDepth 20000 in
theorem gX2_has_X2_isRow : GoodIn wsX2_has (va_wsS RX2 31 yX2_isRow wsX2_isRow) := goodIn_app (goodIn_of _ (by decide +kernel)) ggX2_has_X2_isRow
set_option maxRecDepth 20000 in
theorem ggX2_has_X1_seatsOf : GoodIn wsX2_has wsX1_seatsOf := goodIn_r _ [15, 16, 17, 26, 27, 28, 29, 30] rfl (by decide +kernel)
set_option maxRecDepth 20000 in
theorem gX2_has_X1_seatsOf : GoodIn wsX2_has (wsV RX2 47 RX1 yX1_seatsOf wsX1_seatsOf) := goodIn_app (goodIn_of _ (by decide +kernel)) ggX2_has_X1_seatsOf
set_option maxRecDepth 20000 in
theorem ggX2_about_X2_isRow : GoodIn wsX2_about wsX2_isRow := goodIn_r _ [8] rfl (by decide +kernel)
set_option maxRecDepth 20000 in
theorem gX2_about_X2_isRow : GoodIn wsX2_about (va_wsS RX2 31 yX2_isRow wsX2_isRow) := goodIn_app (goodIn_of _ (by decide +kernel)) ggX2_about_X2_isRow
set_option maxRecDepth 20000 in
theorem ggX2_about_X1_isOpen : GoodIn wsX2_about wsX1_isOpen := goodIn_r _ [13, 14, 28, 29, 30, 31, 32] rfl (by decide +kernel)
set_option maxRecDepth 20000 in
theorem gX2_about_X1_isOpen : GoodIn wsX2_about (wsV RX2 35 RX1 yX1_isOpen wsX1_isOpen) := goodIn_app (goodIn_of _ (by decide +kernel)) ggX2_about_X1_isOpen
set_option maxRecDepth 20000 in
theorem ggX2_about_X1_seatsOf : GoodIn wsX2_about wsX1_seatsOf := goodIn_r _ [18, 14, 19, 28, 29, 30, 31, 32] rfl (by decide +kernel)
set_option maxRecDepth 20000 in
theorem gX2_about_X1_seatsOf : GoodIn wsX2_about (wsV RX2 47 RX1 yX1_seatsOf wsX1_seatsOf) := goodIn_app (goodIn_of _ (by decide +kernel)) ggX2_about_X1_seatsOf
set_option maxRecDepth 20000 in
theorem ggX2_told_X2_openRows : GoodIn wsX2_told wsX2_openRows := goodIn_r _ [11, 12, 13, 14, 15, 16, 17, 18, 19, 20, 21, 22, 23, 24, 25, 26, 31, 32, 33, 34, 35] rfl (by decide +kernel)
set_option maxRecDepth 20000 in
theorem gX2_told_X2_openRows : GoodIn wsX2_told (wsV RX2 107 RX2 yX2_openRows wsX2_openRows) := goodIn_app (goodIn_of _ (by decide +kernel)) ggX2_told_X2_openRows
set_option maxRecDepth 20000 in
theorem ggX2_waiting_X2_isWaiting : GoodIn wsX2_waiting wsX2_isWaiting := goodIn_r _ [7, 8, 9, 10, 11, 12, 13, 14, 15, 16] rfl (by decide +kernel)
set_option maxRecDepth 20000 in
theorem gX2_waiting_X2_isWaiting : GoodIn wsX2_waiting (wsV RX2 89 RX2 yX2_isWaiting wsX2_isWaiting) := goodIn_app (goodIn_of _ (by decide +kernel)) ggX2_waiting_X2_isWaiting
set_option maxRecDepth 20000 in
theorem ggX2_openRows_X1_isOpen : GoodIn wsX2_openRows wsX1_isOpen := goodIn_r _ [6, 7, 16, 17, 18, 19, 20] rfl (by decide +kernel)
set_option maxRecDepth 20000 in
theorem gX2_openRows_X1_isOpen : GoodIn wsX2_openRows (wsV RX2 35 RX1 yX1_isOpen wsX1_isOpen) := goodIn_app (goodIn_of _ (by decide +kernel)) ggX2_openRows_X1_isOpen
set_option maxRecDepth 20000 in
theorem ggX2_tryThoseWaiting_X2_goThrough : GoodIn wsX2_tryThoseWaiting wsX2_goThrough := goodIn_r _ [8, 9, 10, 3, 11, 12, 13, 7, 14, 15, 16, 17, 18, 19, 20, 21, 22, 23, 24, 25, 26, 27, 28, 29, 30, 31, 32, 33, 34, 35, 36, 37, 38, 39, 40, 41, 42, 43, 44, 45, 46, 47, 48, 49, 50, 51, 52, 53, 54, 55, 56, 57, 58, 59, 68, 69, 70, 71, 60, 61, 62, 63, 64, 65, 66, 67, 72, 73, 74, 75, 76] rfl (by decide +kernel)
set_option maxRecDepth 20000 in
theorem gX2_tryThoseWaiting_X2_goThrough : GoodIn wsX2_tryThoseWaiting (wsV RX2 73 RX2 yX2_goThrough wsX2_goThrough) := goodIn_app (goodIn_of _ (by decide +kernel)) ggX2_tryThoseWaiting_X2_goThrough
set_option maxRecDepth 20000 in
theorem ggX2_goThrough_X2_goOn : GoodIn wsX2_goThrough wsX2_goOn := goodIn_r _ [8, 9, 1, 10, 11, 12, 13, 14, 15, 16, 17, 3, 18, 19, 20, 7, 21, 22, 23, 24, 25, 26, 27, 28, 29, 30, 31, 32, 33, 34, 35, 36, 37, 38, 39, 40, 41, 42, 43, 44, 45, 46, 47, 48, 4, 5, 6, 49, 50, 51, 52, 53, 54, 55, 56, 57, 58, 59, 60, 61, 62, 63, 64, 65, 66, 67, 68, 69, 70] rfl (by decide +kernel)
set_option maxRecDepth 20000 in
theorem gX2_goThrough_X2_goOn : GoodIn wsX2_goThrough (wsV RX2 110 RX2 yX2_goOn wsX2_goOn) := goodIn_app (goodIn_of _ (by decide +kernel)) ggX2_goThrough_X2_goOn
set_option maxRecDepth 20000 in
theorem ggX2_goOn_X2_obstacleAt : GoodIn wsX2_goOn wsX2_obstacleAt := goodIn_r _ [16, 17, 4, 3, 18, 19, 15, 20, 21, 22, 23, 24, 25, 26, 52, 53, 54, 55, 56, 57, 58, 59, 60, 61, 62, 63, 64, 65, 66, 67, 68] rfl (by decide +kernel)
set_option maxRecDepth 20000 in
theorem gX2_goOn_X2_obstacleAt : GoodIn wsX2_goOn (wsV RX2 114 RX2 yX2_obstacleAt wsX2_obstacleAt) := goodIn_app (goodIn_of _ (by decide +kernel)) ggX2_goOn_X2_obstacleAt
set_option maxRecDepth 20000 in
theorem ggX2_goOn_X1_take : GoodIn wsX2_goOn wsX1_take := goodIn_r _ [30, 31, 26, 32, 33, 34, 35, 24, 36, 64, 65, 66, 67, 68] rfl (by decide +kernel)
set_option maxRecDepth 20000 in
theorem gX2_goOn_X1_take : GoodIn wsX2_goOn (wsV RX2 124 RX1 yX1_take wsX1_take) := goodIn_app (goodIn_of _ (by decide +kernel)) ggX2_goOn_X1_take
set_option maxRecDepth 20000 in
theorem ggX2_goOn_J6_bitCount_0f7a4 : GoodIn wsX2_goOn wsJ6_bitCount_0f7a4 := goodIn_r _ [40, 41, 42, 43] rfl (by decide +kernel)
set_option maxRecDepth 20000 in
theorem gX2_goOn_J6_bitCount_0f7a4 : GoodIn wsX2_goOn (va_wsS RX2 127 yJ6_bitCount_0f7a4 wsJ6_bitCount_0f7a4) := goodIn_app (goodIn_of _ (by decide +kernel)) ggX2_goOn_J6_bitCount_0f7a4
set_option maxRecDepth 20000 in
theorem ggX2_goOn_X2_goOn : GoodIn wsX2_goOn wsX2_goOn := goodIn_r _ [0, 1, 2, 3, 4, 5, 6, 7, 8, 9, 10, 11, 12, 13, 14, 15, 16, 17, 18, 19, 20, 21, 22, 23, 24, 25, 26, 27, 28, 29, 30, 31, 32, 33, 34, 35, 36, 37, 38, 39, 40, 41, 42, 43, 44, 45, 46, 47, 48, 49, 50, 51, 52, 53, 54, 55, 56, 57, 58, 59, 60, 61, 62, 63, 64, 65, 66, 67, 68] rfl (by decide +kernel)
set_option maxRecDepth 20000 in
theorem gX2_goOn_X2_goOn : GoodIn wsX2_goOn (wsV RX2 110 RX2 yX2_goOn wsX2_goOn) := goodIn_app (goodIn_of _ (by decide +kernel)) ggX2_goOn_X2_goOn
set_option maxRecDepth 20000 in
theorem ggX2_goOn_X1_giveBack : GoodIn wsX2_goOn wsX1_giveBack := goodIn_r _ [50, 51, 26, 32, 64, 65, 66, 67, 68] rfl (by decide +kernel)
set_option maxRecDepth 20000 in
theorem gX2_goOn_X1_giveBack : GoodIn wsX2_goOn (wsV RX2 132 RX1 yX1_giveBack wsX1_giveBack) := goodIn_app (goodIn_of _ (by decide +kernel)) ggX2_goOn_X1_giveBack
set_option maxRecDepth 20000 in
theorem ggX2_obstacleAt_X2_isRow : GoodIn wsX2_obstacleAt wsX2_isRow := goodIn_r _ [7] rfl (by decide +kernel)
set_option maxRecDepth 20000 in
theorem gX2_obstacleAt_X2_isRow : GoodIn wsX2_obstacleAt (va_wsS RX2 31 yX2_isRow wsX2_isRow) := goodIn_app (goodIn_of _ (by decide +kernel)) ggX2_obstacleAt_X2_isRow
set_option maxRecDepth 20000 in
theorem ggX2_obstacleAt_X1_isOpen : GoodIn wsX2_obstacleAt wsX1_isOpen := goodIn_r _ [12, 13, 26, 27, 28, 29, 30] rfl (by decide +kernel)
set_option maxRecDepth 20000 in
theorem gX2_obstacleAt_X1_isOpen : GoodIn wsX2_obstacleAt (wsV RX2 35 RX1 yX1_isOpen wsX1_isOpen) := goodIn_app (goodIn_of _ (by decide +kernel)) ggX2_obstacleAt_X1_isOpen
set_option maxRecDepth 20000 in
theorem ggX3_takes_X3_mark : GoodIn wsX3_takes wsX3_mark := goodIn_r _ [7, 8, 9, 10, 15, 16, 17, 18, 19, 20, 21, 22, 23, 24, 25, 26, 27, 28, 29, 30, 31, 32, 33, 34, 35] rfl (by decide +kernel)
set_option maxRecDepth 20000 in
theorem gX3_takes_X3_mark : GoodIn wsX3_takes (wsV RX3 60 RX3 yX3_mark wsX3_mark) := goodIn_app (goodIn_of _ (by decide +kernel)) ggX3_takes_X3_mark
set_option maxRecDepth 20000 in
theorem ggX3_takes_X3_stretch : GoodIn wsX3_takes wsX3_stretch := goodIn_r _ [14, 2, 8, 9, 15, 16, 17, 18, 19, 20, 21, 22, 23, 24, 25, 26, 27, 28, 29, 30, 31, 32, 33, 34, 35] rfl (by decide +kernel)
set_option maxRecDepth 20000 in
theorem gX3_takes_X3_stretch : GoodIn wsX3_takes (wsV RX3 64 RX3 yX3_stretch wsX3_stretch) := goodIn_app (goodIn_of _ (by decide +kernel)) ggX3_takes_X3_stretch
set_option maxRecDepth 20000 in
theorem ggX3_goes_X3_takes : GoodIn wsX3_goes wsX3_takes := goodIn_r _ [13, 14, 15, 16, 17, 18, 12, 19, 20, 21, 7, 22, 23, 24, 25, 31, 32, 33, 34, 35, 36, 37, 38, 39, 40, 41, 42, 43, 44, 45, 46, 47, 48, 49, 50, 51] rfl (by decide +kernel)
set_option maxRecDepth 20000 in
theorem gX3_goes_X3_takes : GoodIn wsX3_goes (wsV RX3 71 RX3 yX3_takes wsX3_takes) := goodIn_app (goodIn_of _ (by decide +kernel)) ggX3_goes_X3_takes
set_option maxRecDepth 20000 in
theorem ggX3_goes_X3_giveBack : GoodIn wsX3_goes wsX3_giveBack := goodIn_r _ [29, 30, 2, 5, 21, 7, 31, 32, 33, 34, 35, 36, 37, 38, 39, 40, 41, 42, 43, 44, 45, 46, 47, 48, 49, 50, 51] rfl (by decide +kernel)
set_option maxRecDepth 20000 in
theorem gX3_goes_X3_giveBack : GoodIn wsX3_goes (wsV RX3 77 RX3 yX3_giveBack wsX3_giveBack) := goodIn_app (goodIn_of _ (by decide +kernel)) ggX3_goes_X3_giveBack
set_option maxRecDepth 20000 in
theorem ggX3_tried_X3_goes : GoodIn wsX3_tried wsX3_goes := goodIn_r _ [12, 4, 5, 13, 14, 15, 16, 2, 17, 18, 19, 20, 11, 21, 22, 23, 24, 25, 26, 27, 28, 29, 30, 31, 32, 33, 34, 35, 36, 37, 38, 43, 44, 45, 46, 47, 48, 49, 50, 51, 52, 53, 54, 55, 56, 57, 58, 59, 60, 61, 62, 63] rfl (by decide +kernel)
set_option maxRecDepth 20000 in
theorem gX3_tried_X3_goes : GoodIn wsX3_tried (wsV RX3 87 RX3 yX3_goes wsX3_goes) := goodIn_app (goodIn_of _ (by decide +kernel)) ggX3_tried_X3_goes
set_option maxRecDepth 20000 in
theorem ggX3_tried_X3_removed : GoodIn wsX3_tried wsX3_removed := goodIn_r _ [42, 1, 7, 3, 6, 43, 44, 45, 46, 47, 48, 49, 50, 51, 52, 53, 54, 55, 56, 57, 58, 59, 60, 61, 62, 63] rfl (by decide +kernel)
set_option maxRecDepth 20000 in
theorem gX3_tried_X3_removed : GoodIn wsX3_tried (wsV RX3 90 RX3 yX3_removed wsX3_removed) := goodIn_app (goodIn_of _ (by decide +kernel)) ggX3_tried_X3_removed
set_option maxRecDepth 20000 in
theorem ggX3_open_X3_in : GoodIn wsX3_open wsX3_in := goodIn_r _ [11] rfl (by decide +kernel)
set_option maxRecDepth 20000 in
theorem gX3_open_X3_in : GoodIn wsX3_open (va_wsS RX3 93 yX3_in wsX3_in) := goodIn_app (goodIn_of _ (by decide +kernel)) ggX3_open_X3_in
set_option maxRecDepth 20000 in
theorem ggX3_open_X3_tried : GoodIn wsX3_open wsX3_tried := goodIn_r _ [15, 16, 17, 18, 19, 20, 21, 22, 23, 24, 25, 10, 26, 2, 5, 27, 28, 29, 30, 31, 32, 33, 3, 34, 35, 36, 37, 38, 4, 7, 39, 40, 41, 42, 43, 44, 45, 46, 6, 47, 48, 49, 50, 51, 52, 53, 54, 55, 56, 57, 58, 59, 60, 61, 62, 63, 64, 65, 66, 67, 68, 69, 70, 71] rfl (by decide +kernel)
set_option maxRecDepth 20000 in
theorem gX3_open_X3_tried : GoodIn wsX3_open (wsV RX3 97 RX3 yX3_tried wsX3_tried) := goodIn_app (goodIn_of _ (by decide +kernel)) ggX3_open_X3_tried
set_option maxRecDepth 20000 in
theorem ggX3_shut_X3_in : GoodIn wsX3_shut wsX3_in := goodIn_r _ [7] rfl (by decide +kernel)
set_option maxRecDepth 20000 in
theorem gX3_shut_X3_in : GoodIn wsX3_shut (va_wsS RX3 93 yX3_in wsX3_in) := goodIn_app (goodIn_of _ (by decide +kernel)) ggX3_shut_X3_in
set_option maxRecDepth 20000 in
theorem ggX3_shut_X3_free : GoodIn wsX3_shut wsX3_free := goodIn_r _ [11, 3, 12, 13, 14, 15, 16, 17, 18, 19, 20, 21, 22, 23, 24, 25, 26, 27, 28, 29, 30, 31, 32, 33] rfl (by decide +kernel)
set_option maxRecDepth 20000 in
theorem gX3_shut_X3_free : GoodIn wsX3_shut (wsV RX3 101 RX3 yX3_free wsX3_free) := goodIn_app (goodIn_of _ (by decide +kernel)) ggX3_shut_X3_free
set_option maxRecDepth 20000 in
theorem ggX3_strict_X3_in : GoodIn wsX3_strict wsX3_in := goodIn_r _ [7] rfl (by decide +kernel)
set_option maxRecDepth 20000 in
theorem gX3_strict_X3_in : GoodIn wsX3_strict (va_wsS RX3 93 yX3_in wsX3_in) := goodIn_app (goodIn_of _ (by decide +kernel)) ggX3_strict_X3_in
set_option maxRecDepth 20000 in
theorem ggX3_list_X3_in : GoodIn wsX3_list wsX3_in := goodIn_r _ [7] rfl (by decide +kernel)
set_option maxRecDepth 20000 in
theorem gX3_list_X3_in : GoodIn wsX3_list (va_wsS RX3 93 yX3_in wsX3_in) := goodIn_app (goodIn_of _ (by decide +kernel)) ggX3_list_X3_in
set_option maxRecDepth 20000 in
theorem ggX3_book_X3_in : GoodIn wsX3_book wsX3_in := goodIn_r _ [14] rfl (by decide +kernel)
set_option maxRecDepth 20000 in
theorem gX3_book_X3_in : GoodIn wsX3_book (va_wsS RX3 93 yX3_in wsX3_in) := goodIn_app (goodIn_of _ (by decide +kernel)) ggX3_book_X3_in
set_option maxRecDepth 20000 in
theorem ggX3_book_X3_goes : GoodIn wsX3_book wsX3_goes := goodIn_r _ [18, 4, 5, 19, 20, 21, 22, 3, 23, 24, 25, 26, 13, 27, 28, 29, 30, 31, 32, 33, 34, 35, 36, 37, 38, 39, 40, 41, 42, 43, 44, 45, 46, 47, 48, 49, 50, 51, 52, 53, 54, 55, 56, 57, 58, 59, 60, 61, 62, 63, 64, 65] rfl (by decide +kernel)
set_option maxRecDepth 20000 in
theorem gX3_book_X3_goes : GoodIn wsX3_book (wsV RX3 87 RX3 yX3_goes wsX3_goes) := goodIn_app (goodIn_of _ (by decide +kernel)) ggX3_book_X3_goes
set_option maxRecDepth 20000 in
theorem ggX3_cancel_X3_in : GoodIn wsX3_cancel wsX3_in := goodIn_r _ [8] rfl (by decide +kernel)
set_option maxRecDepth 20000 in
theorem gX3_cancel_X3_in : GoodIn wsX3_cancel (va_wsS RX3 93 yX3_in wsX3_in) := goodIn_app (goodIn_of _ (by decide +kernel)) ggX3_cancel_X3_in
set_option maxRecDepth 20000 in
theorem ggX3_cancel_X3_tried : GoodIn wsX3_cancel wsX3_tried := goodIn_r _ [12, 13, 2, 14, 15, 16, 17, 18, 19, 20, 21, 7, 22, 23, 24, 25, 26, 27, 28, 29, 30, 31, 32, 33, 34, 35, 36, 37, 38, 4, 39, 40, 41, 42, 43, 44, 45, 46, 47, 48, 49, 50, 51, 52, 53, 54, 55, 56, 57, 58, 59, 60, 61, 62, 63, 64, 65, 66, 67, 68, 69, 70, 71, 72] rfl (by decide +kernel)
set_option maxRecDepth 20000 in
theorem gX3_cancel_X3_tried : GoodIn wsX3_cancel (wsV RX3 97 RX3 yX3_tried wsX3_tried) := goodIn_app (goodIn_of _ (by decide +kernel)) ggX3_cancel_X3_tried
set_option maxRecDepth 20000 in
theorem ggX3_leave_X3_in : GoodIn wsX3_leave wsX3_in := goodIn_r _ [7] rfl (by decide +kernel)
set_option maxRecDepth 20000 in
theorem gX3_leave_X3_in : GoodIn wsX3_leave (va_wsS RX3 93 yX3_in wsX3_in) := goodIn_app (goodIn_of _ (by decide +kernel)) ggX3_leave_X3_in
set_option maxRecDepth 20000 in
theorem ggX3_leave_X3_removed : GoodIn wsX3_leave wsX3_removed := goodIn_r _ [11, 2, 3, 12, 13, 14, 15, 16, 17, 18, 19, 20, 21, 22, 23, 24, 25, 26, 27, 28, 29, 30, 31, 32, 33, 34] rfl (by decide +kernel)
set_option maxRecDepth 20000 in
theorem gX3_leave_X3_removed : GoodIn wsX3_leave (wsV RX3 90 RX3 yX3_removed wsX3_removed) := goodIn_app (goodIn_of _ (by decide +kernel)) ggX3_leave_X3_removed
set_option maxRecDepth 20000 in
theorem ggX3_seat_X3_in : GoodIn wsX3_seat wsX3_in := goodIn_r _ [8] rfl (by decide +kernel)
set_option maxRecDepth 20000 in
theorem gX3_seat_X3_in : GoodIn wsX3_seat (va_wsS RX3 93 yX3_in wsX3_in) := goodIn_app (goodIn_of _ (by decide +kernel)) ggX3_seat_X3_in
set_option maxRecDepth 20000 in
theorem ggX3_has_X3_in : GoodIn wsX3_has wsX3_in := goodIn_r _ [9] rfl (by decide +kernel)
set_option maxRecDepth 20000 in
theorem gX3_has_X3_in : GoodIn wsX3_has (va_wsS RX3 93 yX3_in wsX3_in) := goodIn_app (goodIn_of _ (by decide +kernel)) ggX3_has_X3_in
set_option maxRecDepth 20000 in
theorem ggX3_about_X3_in : GoodIn wsX3_about wsX3_in := goodIn_r _ [9] rfl (by decide +kernel)
set_option maxRecDepth 20000 in
theorem gX3_about_X3_in : GoodIn wsX3_about (va_wsS RX3 93 yX3_in wsX3_in) := goodIn_app (goodIn_of _ (by decide +kernel)) ggX3_about_X3_in
set_option maxRecDepth 20000 in
theorem ggX3_about_X3_free : GoodIn wsX3_about wsX3_free := goodIn_r _ [13, 5, 14, 15, 16, 17, 18, 19, 20, 21, 22, 23, 24, 25, 26, 27, 28, 29, 30, 31, 32, 33, 34, 35] rfl (by decide +kernel)
set_option maxRecDepth 20000 in
theorem gX3_about_X3_free : GoodIn wsX3_about (wsV RX3 101 RX3 yX3_free wsX3_free) := goodIn_app (goodIn_of _ (by decide +kernel)) ggX3_about_X3_free
set_option maxRecDepth 20000 in
theorem ggX3_waiting_X3_in : GoodIn wsX3_waiting wsX3_in := goodIn_r _ [7] rfl (by decide +kernel)
set_option maxRecDepth 20000 in
theorem gX3_waiting_X3_in : GoodIn wsX3_waiting (va_wsS RX3 93 yX3_in wsX3_in) := goodIn_app (goodIn_of _ (by decide +kernel)) ggX3_waiting_X3_in
set_option maxRecDepth 20000 in
theorem ggL_law_X2_init : GoodIn wsL_law wsX2_init := goodIn_r _ [8, 9, 10, 11, 12, 13, 14, 15, 16, 17, 18, 19, 20, 21, 22, 23, 24, 25, 26, 27, 28, 29, 30, 31, 278, 279, 280, 281, 282, 283, 284, 285, 307, 308, 309, 310, 311, 312, 313, 314, 315] rfl (by decide +kernel)
set_option maxRecDepth 20000 in
theorem gL_law_X2_init : GoodIn wsL_law (wsX2_init) := ggL_law_X2_init
set_option maxRecDepth 20000 in
theorem ggL_law_X3_init : GoodIn wsL_law wsX3_init := goodIn_r _ [34, 35, 10, 11, 14, 36, 37, 26, 38, 39, 40, 41, 42, 43, 44, 45, 46, 47, 48, 286, 287, 288, 289, 290, 291, 292, 293, 294, 295, 296, 297, 298, 299, 300, 301, 302, 303, 304, 305, 306] rfl (by decide +kernel)
set_option maxRecDepth 20000 in
theorem gL_law_X3_init : GoodIn wsL_law (wsX3_init) := ggL_law_X3_init
set_option maxRecDepth 20000 in
theorem ggL_law_X2_open : GoodIn wsL_law wsX2_open := goodIn_r _ [52, 13, 53, 54, 2, 55, 56, 57, 58, 22, 59, 60, 61, 62, 63, 64, 65, 66, 31, 67, 68, 69, 70, 71, 17, 72, 73, 74, 75, 76, 77, 78, 79, 80, 81, 82, 83, 84, 85, 86, 87, 88, 89, 90, 91, 92, 93, 94, 95, 96, 97, 98, 99, 100, 101, 102, 103, 104, 105, 106, 107, 108, 109, 110, 111, 112, 113, 114, 278, 279, 280, 281, 282, 283, 284, 285, 311, 312, 313, 314, 315, 307, 308, 309, 310] rfl (by decide +kernel)
set_option maxRecDepth 20000 in
theorem gL_law_X2_open : GoodIn wsL_law (wsV RL 13 RX2 yX2_open wsX2_open) := goodIn_app (goodIn_of _ (by decide +kernel)) ggL_law_X2_open
set_option maxRecDepth 20000 in
theorem ggL_law_X3_open : GoodIn wsL_law wsX3_open := goodIn_r _ [118, 119, 36, 37, 38, 39, 40, 41, 120, 121, 5, 122, 123, 124, 125, 126, 127, 128, 46, 129, 47, 45, 44, 130, 131, 132, 133, 48, 134, 135, 136, 137, 138, 139, 140, 141, 142, 143, 144, 145, 146, 147, 148, 149, 150, 151, 152, 153, 154, 155, 156, 286, 287, 288, 289, 290, 291, 292, 293, 294, 295, 296, 297, 298, 299, 300, 301, 302, 303, 304, 305, 306] rfl (by decide +kernel)
set_option maxRecDepth 20000 in
theorem gL_law_X3_open : GoodIn wsL_law (wsV RL 17 RX3 yX3_open wsX3_open) := goodIn_app (goodIn_of _ (by decide +kernel)) ggL_law_X3_open
set_option maxRecDepth 20000 in
theorem ggL_law_X2_shut : GoodIn wsL_law wsX2_shut := goodIn_r _ [160, 13, 161, 53, 54, 2, 55, 56, 57, 58, 22, 59, 60, 162, 163, 164, 165, 31, 278, 279, 280, 281, 282, 283, 284, 285, 311, 312, 313, 314, 315] rfl (by decide +kernel)
set_option maxRecDepth 20000 in
theorem gL_law_X2_shut : GoodIn wsL_law (wsV RL 18 RX2 yX2_shut wsX2_shut) := goodIn_app (goodIn_of _ (by decide +kernel)) ggL_law_X2_shut
set_option maxRecDepth 20000 in
theorem ggL_law_X3_shut : GoodIn wsL_law wsX3_shut := goodIn_r _ [169, 119, 36, 38, 120, 121, 5, 122, 170, 171, 172, 173, 41, 286, 287, 288, 289, 290, 291, 292, 293, 294, 295, 296, 297, 298, 299, 300, 301, 302, 303, 304, 305, 306] rfl (by decide +kernel)
set_option maxRecDepth 20000 in
theorem gL_law_X3_shut : GoodIn wsL_law (wsV RL 22 RX3 yX3_shut wsX3_shut) := goodIn_app (goodIn_of _ (by decide +kernel)) ggL_law_X3_shut
set_option maxRecDepth 20000 in
theorem ggL_law_X2_strict : GoodIn wsL_law wsX2_strict := goodIn_r _ [177, 13, 178, 53, 54, 2, 55, 56, 57, 58, 22, 59, 60, 278, 279, 280, 281, 282, 283, 284, 285, 311, 312, 313, 314, 315] rfl (by decide +kernel)
set_option maxRecDepth 20000 in
theorem gL_law_X2_strict : GoodIn wsL_law (wsV RL 23 RX2 yX2_strict wsX2_strict) := goodIn_app (goodIn_of _ (by decide +kernel)) ggL_law_X2_strict
set_option maxRecDepth 20000 in
theorem ggL_law_X3_strict : GoodIn wsL_law wsX3_strict := goodIn_r _ [182, 119, 36, 37, 120, 121, 5, 122, 286, 287, 288, 289, 290, 291, 292, 293, 294, 295, 296, 297, 298, 299, 300, 301, 302, 303, 304, 305, 306] rfl (by decide +kernel)
set_option maxRecDepth 20000 in
theorem gL_law_X3_strict : GoodIn wsL_law (wsV RL 27 RX3 yX3_strict wsX3_strict) := goodIn_app (goodIn_of _ (by decide +kernel)) ggL_law_X3_strict
set_option maxRecDepth 20000 in
theorem ggL_law_X2_list : GoodIn wsL_law wsX2_list := goodIn_r _ [186, 20, 95, 84, 278, 279, 280, 281, 282, 283, 284, 285, 307, 308, 309, 310] rfl (by decide +kernel)
set_option maxRecDepth 20000 in
theorem gL_law_X2_list : GoodIn wsL_law (wsV RL 28 RX2 yX2_list wsX2_list) := goodIn_app (goodIn_of _ (by decide +kernel)) ggL_law_X2_list
set_option maxRecDepth 20000 in
theorem ggL_law_X3_list : GoodIn wsL_law wsX3_list := goodIn_r _ [190, 119, 191, 42, 120, 121, 5, 122, 286, 287, 288, 289, 290, 291, 292, 293, 294, 295, 296, 297, 298, 299, 300, 301, 302, 303, 304, 305, 306] rfl (by decide +kernel)
set_option maxRecDepth 20000 in
theorem gL_law_X3_list : GoodIn wsL_law (wsV RL 31 RX3 yX3_list wsX3_list) := goodIn_app (goodIn_of _ (by decide +kernel)) ggL_law_X3_list
set_option maxRecDepth 20000 in
theorem ggL_law_X2_book : GoodIn wsL_law wsX2_book := goodIn_r _ [195, 20, 95, 72, 77, 83, 71, 73, 74, 75, 2, 76, 78, 79, 80, 81, 82, 13, 84, 85, 86, 87, 88, 89, 90, 91, 92, 93, 94, 53, 54, 55, 56, 57, 58, 22, 59, 60, 96, 97, 98, 99, 65, 31, 100, 101, 102, 103, 104, 105, 106, 107, 108, 109, 110, 111, 112, 113, 114, 66, 196, 197, 198, 199, 17, 278, 279, 280, 281, 282, 283, 284, 285, 307, 308, 309, 310, 311, 312, 313, 314, 315] rfl (by decide +kernel)
set_option maxRecDepth 20000 in
theorem gL_law_X2_book : GoodIn wsL_law (wsV RL 32 RX2 yX2_book wsX2_book) := goodIn_app (goodIn_of _ (by decide +kernel)) ggL_law_X2_book
set_option maxRecDepth 20000 in
theorem ggL_law_X3_book : GoodIn wsL_law wsX3_book := goodIn_r _ [203, 119, 191, 128, 129, 47, 42, 127, 44, 46, 45, 120, 121, 5, 122, 130, 131, 132, 133, 36, 39, 48, 134, 135, 136, 137, 138, 139, 37, 140, 141, 142, 143, 144, 38, 41, 145, 146, 147, 148, 149, 150, 151, 152, 40, 286, 287, 288, 289, 290, 291, 292, 293, 294, 295, 296, 297, 298, 299, 300, 301, 302, 303, 304, 305, 306] rfl (by decide +kernel)
set_option maxRecDepth 20000 in
theorem gL_law_X3_book : GoodIn wsL_law (wsV RL 35 RX3 yX3_book wsX3_book) := goodIn_app (goodIn_of _ (by decide +kernel)) ggL_law_X3_book
set_option maxRecDepth 20000 in
theorem ggL_law_X2_cancel : GoodIn wsL_law wsX2_cancel := goodIn_r _ [207, 15, 13, 208, 209, 210, 2, 211, 72, 212, 213, 214, 22, 215, 60, 31, 67, 68, 69, 70, 71, 17, 73, 74, 75, 76, 77, 78, 79, 80, 81, 82, 83, 84, 85, 86, 87, 88, 89, 90, 91, 92, 93, 94, 95, 53, 54, 55, 56, 57, 58, 59, 96, 97, 98, 99, 65, 100, 101, 102, 103, 104, 105, 106, 107, 108, 109, 110, 111, 112, 113, 114, 66, 278, 279, 280, 281, 282, 283, 284, 285, 311, 312, 313, 314, 315, 307, 308, 309, 310] rfl (by decide +kernel)
set_option maxRecDepth 20000 in
theorem gL_law_X2_cancel : GoodIn wsL_law (wsV RL 36 RX2 yX2_cancel wsX2_cancel) := goodIn_app (goodIn_of _ (by decide +kernel)) ggL_law_X2_cancel
set_option maxRecDepth 20000 in
theorem ggL_law_X3_cancel : GoodIn wsL_law wsX3_cancel := goodIn_r _ [219, 119, 128, 43, 41, 120, 121, 5, 122, 123, 124, 125, 126, 127, 46, 129, 47, 45, 44, 130, 131, 132, 133, 36, 39, 48, 134, 135, 136, 137, 138, 139, 37, 140, 141, 142, 143, 144, 38, 145, 146, 147, 148, 149, 150, 151, 152, 40, 153, 154, 155, 156, 286, 287, 288, 289, 290, 291, 292, 293, 294, 295, 296, 297, 298, 299, 300, 301, 302, 303, 304, 305, 306] rfl (by decide +kernel)
set_option maxRecDepth 20000 in
theorem gL_law_X3_cancel : GoodIn wsL_law (wsV RL 39 RX3 yX3_cancel wsX3_cancel) := goodIn_app (goodIn_of _ (by decide +kernel)) ggL_law_X3_cancel
set_option maxRecDepth 20000 in
theorem ggL_law_X2_leave : GoodIn wsL_law wsX2_leave := goodIn_r _ [223, 17, 71, 77, 224, 225, 226, 2, 227, 278, 279, 280, 281, 282, 283, 284, 285, 307, 308, 309, 310] rfl (by decide +kernel)
set_option maxRecDepth 20000 in
theorem gL_law_X2_leave : GoodIn wsL_law (wsV RL 40 RX2 yX2_leave wsX2_leave) := goodIn_app (goodIn_of _ (by decide +kernel)) ggL_law_X2_leave
set_option maxRecDepth 20000 in
theorem ggL_law_X3_leave : GoodIn wsL_law wsX3_leave := goodIn_r _ [231, 119, 127, 44, 120, 121, 5, 122, 153, 154, 155, 156, 46, 45, 286, 287, 288, 289, 290, 291, 292, 293, 294, 295, 296, 297, 298, 299, 300, 301, 302, 303, 304, 305, 306] rfl (by decide +kernel)
set_option maxRecDepth 20000 in
theorem gL_law_X3_leave : GoodIn wsL_law (wsV RL 43 RX3 yX3_leave wsX3_leave) := goodIn_app (goodIn_of _ (by decide +kernel)) ggL_law_X3_leave
set_option maxRecDepth 20000 in
theorem ggL_law_X2_seat : GoodIn wsL_law wsX2_seat := goodIn_r _ [235, 13, 161, 236, 53, 54, 2, 55, 278, 279, 280, 281, 282, 283, 284, 285, 311, 312, 313, 314, 315] rfl (by decide +kernel)
set_option maxRecDepth 20000 in
theorem gL_law_X2_seat : GoodIn wsL_law (wsV RL 44 RX2 yX2_seat wsX2_seat) := goodIn_app (goodIn_of _ (by decide +kernel)) ggL_law_X2_seat
set_option maxRecDepth 20000 in
theorem ggL_law_X3_seat : GoodIn wsL_law wsX3_seat := goodIn_r _ [240, 119, 36, 38, 41, 120, 121, 5, 122, 286, 287, 288, 289, 290, 291, 292, 293, 294, 295, 296, 297, 298, 299, 300, 301, 302, 303, 304, 305, 306] rfl (by decide +kernel)
set_option maxRecDepth 20000 in
theorem gL_law_X3_seat : GoodIn wsL_law (wsV RL 47 RX3 yX3_seat wsX3_seat) := goodIn_app (goodIn_of _ (by decide +kernel)) ggL_law_X3_seat
set_option maxRecDepth 20000 in
theorem ggL_law_X2_has : GoodIn wsL_law wsX2_has := goodIn_r _ [244, 13, 208, 209, 210, 2, 211, 72, 53, 54, 55, 162, 163, 164, 22, 165, 60, 31, 278, 279, 280, 281, 282, 283, 284, 285, 311, 312, 313, 314, 315] rfl (by decide +kernel)
set_option maxRecDepth 20000 in
theorem gL_law_X2_has : GoodIn wsL_law (wsV RL 48 RX2 yX2_has wsX2_has) := goodIn_app (goodIn_of _ (by decide +kernel)) ggL_law_X2_has
set_option maxRecDepth 20000 in
theorem ggL_law_X3_has : GoodIn wsL_law wsX3_has := goodIn_r _ [248, 119, 128, 36, 38, 41, 120, 121, 5, 122, 286, 287, 288, 289, 290, 291, 292, 293, 294, 295, 296, 297, 298, 299, 300, 301, 302, 303, 304, 305, 306] rfl (by decide +kernel)
set_option maxRecDepth 20000 in
theorem gL_law_X3_has : GoodIn wsL_law (wsV RL 51 RX3 yX3_has wsX3_has) := goodIn_app (goodIn_of _ (by decide +kernel)) ggL_law_X3_has
set_option maxRecDepth 20000 in
theorem ggL_law_X2_about : GoodIn wsL_law wsX2_about := goodIn_r _ [252, 13, 85, 253, 161, 53, 54, 2, 55, 56, 57, 58, 22, 59, 60, 162, 163, 164, 165, 31, 278, 279, 280, 281, 282, 283, 284, 285, 311, 312, 313, 314, 315] rfl (by decide +kernel)
set_option maxRecDepth 20000 in
theorem gL_law_X2_about : GoodIn wsL_law (wsV RL 52 RX2 yX2_about wsX2_about) := goodIn_app (goodIn_of _ (by decide +kernel)) ggL_law_X2_about
set_option maxRecDepth 20000 in
theorem ggL_law_X3_about : GoodIn wsL_law wsX3_about := goodIn_r _ [257, 119, 36, 39, 40, 38, 120, 121, 5, 122, 170, 171, 172, 173, 41, 286, 287, 288, 289, 290, 291, 292, 293, 294, 295, 296, 297, 298, 299, 300, 301, 302, 303, 304, 305, 306] rfl (by decide +kernel)
set_option maxRecDepth 20000 in
theorem gL_law_X3_about : GoodIn wsL_law (wsV RL 55 RX3 yX3_about wsX3_about) := goodIn_app (goodIn_of _ (by decide +kernel)) ggL_law_X3_about
set_option maxRecDepth 20000 in
theorem ggL_law_X2_told : GoodIn wsL_law wsX2_told := goodIn_r _ [261, 72, 71, 86, 78, 20, 95, 262, 263, 264, 2, 265, 13, 56, 57, 58, 22, 59, 60, 278, 279, 280, 281, 282, 283, 284, 285, 307, 308, 309, 310, 311, 312, 313, 314, 315] rfl (by decide +kernel)
set_option maxRecDepth 20000 in
theorem gL_law_X2_told : GoodIn wsL_law (wsV RL 56 RX2 yX2_told wsX2_told) := goodIn_app (goodIn_of _ (by decide +kernel)) ggL_law_X2_told
set_option maxRecDepth 20000 in
theorem ggL_law_X3_told : GoodIn wsL_law wsX3_told := goodIn_r _ [269, 119, 36, 128, 127, 134, 135, 191, 286, 287, 288, 289, 290, 291, 292, 293, 294, 295, 296, 297, 298, 299, 300, 301, 302, 303, 304, 305, 306] rfl (by decide +kernel)
set_option maxRecDepth 20000 in
theorem gL_law_X3_told : GoodIn wsL_law (wsV RL 59 RX3 yX3_told wsX3_told) := goodIn_app (goodIn_of _ (by decide +kernel)) ggL_law_X3_told
set_option maxRecDepth 20000 in
theorem ggL_law_X2_waiting : GoodIn wsL_law wsX2_waiting := goodIn_r _ [273, 17, 77, 224, 225, 226, 2, 227, 71, 278, 279, 280, 281, 282, 283, 284, 285, 307, 308, 309, 310] rfl (by decide +kernel)
set_option maxRecDepth 20000 in
theorem gL_law_X2_waiting : GoodIn wsL_law (wsV RL 60 RX2 yX2_waiting wsX2_waiting) := goodIn_app (goodIn_of _ (by decide +kernel)) ggL_law_X2_waiting
set_option maxRecDepth 20000 in
theorem ggL_law_X3_waiting : GoodIn wsL_law wsX3_waiting := goodIn_r _ [277, 119, 127, 44, 120, 121, 5, 122, 286, 287, 288, 289, 290, 291, 292, 293, 294, 295, 296, 297, 298, 299, 300, 301, 302, 303, 304, 305, 306] rfl (by decide +kernel)
set_option maxRecDepth 20000 in
theorem gL_law_X3_waiting : GoodIn wsL_law (wsV RL 63 RX3 yX3_waiting wsX3_waiting) := goodIn_app (goodIn_of _ (by decide +kernel)) ggL_law_X3_waiting
abbrev vwCl : List vw_C := [(RX0, TX0, 4), (RX1, TX1, 5), (RX2, TX2, 8), (RX3, TX3, 21)]
