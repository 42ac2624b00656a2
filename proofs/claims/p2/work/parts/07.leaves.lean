theorem g_is0 {P : Prop} (h : ¬ P) : ((0 : Int32) = 0 ↔ ¬ P) := ⟨fun _ => h, fun _ => rfl⟩
theorem g_is1 {P : Prop} (h : P) : ((1 : Int32) = 0 ↔ ¬ P) := ⟨fun q => absurd q (by decide), fun q => absurd h q⟩
theorem g_setself {ws : va_W} {k : Nat} {x y : Nat × va_E} (h : ws[k]? = some y) : (ws.set k x)[k]? = some x := List.getElem?_set_self (List.getElem?_eq_some_iff.mp h).1
theorem g_setne {ws : va_W} {k j : Nat} {x y : Nat × va_E} (hn : k ≠ j) (h : ws[j]? = some y) : (ws.set k x)[j]? = some y := by rw [List.getElem?_set_ne hn]; exact h
theorem g_setid {ws : va_W} {k : Nat} {x : Nat × va_E} (h : ws[k]? = some x) : ws.set k x = ws := by
  apply List.ext_getElem?
  intro j
  by_cases hj : k = j
  · subst hj
    rw [g_setself h, h]
  · rw [List.getElem?_set_ne hj]
theorem g_inc {i : Nat} : nI i + Int32.ofInt 1 = nI (i + 1) := nI_1 i
def gFill (v : Int32) (i : Nat) (f : Nat → Int32) : Nat → Int32 := fun j => if j < i then v else f j
theorem gFill_0 (v : Int32) (f : Nat → Int32) : gFill v 0 f = f := by funext j; simp [gFill]
theorem gFill_up (v : Int32) {i : Nat} (f : Nat → Int32) (hi : i < 2 ^ 31) : upd (gFill v i f) (nI i).toNatClampNeg v = gFill v (i + 1) f := by
  rw [nI_clamp hi]
  funext j
  by_cases h : j = i
  · simp [upd, gFill, h]
  · by_cases h2 : j < i
    · simp [upd, gFill, h, h2, show j < i + 1 by omega]
    · simp [upd, gFill, h, h2, show ¬ j < i + 1 by omega]
set_option maxHeartbeats 4000000 in
set_option maxRecDepth 100000 in
/-- isRow(x) -/
theorem c_isRow (l : Launch) (D : va_G) (K : gCl) (ws : va_W) (x : Int32) (sz : Nat)  : gMi l yX2_isRow wsX2_isRow ({ frames := 0, cells := 0, slots := 0, locals := 0 } : Room) D vwCl (gT K) [.int x] (ws) sz (fun r w => w = ws ∧ (r = 0 ↔ ¬ (0 ≤ x ∧ x < 10))) 0 0 := by
  refine g_of (cc := cX2_isRow) (maxL := 1) (ret := (some .boolean)) (Qc := fun A => va_Qi (fun r w => w = ws ∧ (r = 0 ↔ ¬ (0 ≤ x ∧ x < 10))) (gB D vwCl (gT K) A) A) (by decide) rfl (Nat.le_of_ble_eq_true rfl) ?_
  intro p e s m below meth c A ls I hl
  have I0 := I
  obtain ⟨hx, hb, hr, hml, hown, hts, hlocks, hnm, hA, hK, hP, hD, hS⟩ := I
  have hown : s.vm.findClass RX2 = some m.cls := hown
  have hl : lv_has ls 1 [(0, .int x)] := hl
  refine lv_iload_n hx hb dX2_isRow_0 rfl (lv_at hl 0 rfl) ?_
  refine lv_if_lt (tgt := 14) hx hb dX2_isRow_1 (by decide) (fun c1 => ?_) (fun c1 => ?_)
  · refine lv_iconst (v := 0) hx hb dX2_isRow_14 (by decide) ?_
    exact g_zret hx hb hr hlocks (by first | exact Or.inl rfl | exact Or.inr rfl) (Nat.le_of_ble_eq_true rfl) (Nat.le_of_ble_eq_true rfl) hK hP hD hS dX2_isRow_15 (⟨rfl, g_is0 (by intro h; simp only [Int32.le_iff_toInt_le, Int32.lt_iff_toInt_lt, gl_m1, gl_0, gl_1, gl_2, gl_3, gl_5, gl_6, gl_8, gl_9, gl_10, gl_11, gl_20, gl_40, gl_60] at h c1; omega)⟩)
  · refine lv_iload_n hx hb dX2_isRow_4 rfl (lv_at hl 0 rfl) ?_
    refine lv_bipush (v := 10) hx hb dX2_isRow_5 (by decide) ?_
    refine lv_icmp_ge (tgt := 14) hx hb dX2_isRow_7 (by decide) (fun c7 => ?_) (fun c7 => ?_)
    · refine lv_iconst (v := 0) hx hb dX2_isRow_14 (by decide) ?_
      exact g_zret hx hb hr hlocks (by first | exact Or.inl rfl | exact Or.inr rfl) (Nat.le_of_ble_eq_true rfl) (Nat.le_of_ble_eq_true rfl) hK hP hD hS dX2_isRow_15 (⟨rfl, g_is0 (by intro h; simp only [Int32.le_iff_toInt_le, Int32.lt_iff_toInt_lt, gl_m1, gl_0, gl_1, gl_2, gl_3, gl_5, gl_6, gl_8, gl_9, gl_10, gl_11, gl_20, gl_40, gl_60] at h c1 c7; omega)⟩)
    · refine lv_iconst (v := 1) hx hb dX2_isRow_10 (by decide) ?_
      refine lv_goto (tgt := 15) hx hb dX2_isRow_11 (by decide) ?_
      exact g_zret hx hb hr hlocks (by first | exact Or.inl rfl | exact Or.inr rfl) (Nat.le_of_ble_eq_true rfl) (Nat.le_of_ble_eq_true rfl) hK hP hD hS dX2_isRow_15 (⟨rfl, g_is1 (by simp only [Int32.le_iff_toInt_le, Int32.lt_iff_toInt_lt, gl_m1, gl_0, gl_1, gl_2, gl_3, gl_5, gl_6, gl_8, gl_9, gl_10, gl_11, gl_20, gl_40, gl_60] at c1 c7 ⊢; omega)⟩)
set_option maxHeartbeats 4000000 in
set_option maxRecDepth 100000 in
/-- isBooking(x) -/
theorem c_isBooking (l : Launch) (D : va_G) (K : gCl) (ws : va_W) (h0 hr hc hq co : Nat) (bk wt mh fl x : Int32) (sz : Nat) (he : ws[0]? = some (h0, gObj hr hc hq co bk wt mh fl)) : gMi l yX2_isBooking wsX2_isBooking ({ frames := 0, cells := 0, slots := 0, locals := 0 } : Room) D vwCl (gT K) [.ref h0, .int x] (ws) sz (fun r w => w = ws ∧ (r = 0 ↔ ¬ (0 ≤ x ∧ x < bk))) 0 0 := by
  refine g_of (cc := cX2_isBooking) (maxL := 2) (ret := (some .boolean)) (Qc := fun A => va_Qi (fun r w => w = ws ∧ (r = 0 ↔ ¬ (0 ≤ x ∧ x < bk))) (gB D vwCl (gT K) A) A) (by decide) rfl (Nat.le_of_ble_eq_true rfl) ?_
  intro p e s m below meth c A ls I hl
  have I0 := I
  obtain ⟨hx, hb, hr, hml, hown, hts, hlocks, hnm, hA, hK, hP, hD, hS⟩ := I
  have hown : s.vm.findClass RX2 = some m.cls := hown
  have hl : lv_has ls 2 [(0, .ref h0), (1, .int x)] := hl
  have hi_X2 : ∀ w ∈ u_ws RX2 TX2 8, w ∈ wsX2_isBooking := by decide +kernel
  refine lv_iload_n hx hb dX2_isBooking_0 rfl (lv_at hl 1 rfl) ?_
  refine lv_if_lt (tgt := 16) hx hb dX2_isBooking_1 (by decide) (fun c1 => ?_) (fun c1 => ?_)
  · refine lv_iconst (v := 0) hx hb dX2_isBooking_16 (by decide) ?_
    exact g_zret hx hb hr hlocks (by first | exact Or.inl rfl | exact Or.inr rfl) (Nat.le_of_ble_eq_true rfl) (Nat.le_of_ble_eq_true rfl) hK hP hD hS dX2_isBooking_17 (⟨rfl, g_is0 (by intro h; simp only [Int32.le_iff_toInt_le, Int32.lt_iff_toInt_lt, gl_m1, gl_0, gl_1, gl_2, gl_3, gl_5, gl_6, gl_8, gl_9, gl_10, gl_11, gl_20, gl_40, gl_60] at h c1; omega)⟩)
  · refine lv_iload_n hx hb dX2_isBooking_4 rfl (lv_at hl 1 rfl) ?_
    refine lv_aload_n hx hb dX2_isBooking_5 rfl (lv_at hl 0 rfl) ?_
    refine va_get (C := RX2) (T := TX2) (N := 8) (ci := 2) hx hb hts hi_X2 hown hK hP (0) (he) rfl 4 (by decide) (hts (.fieldLink RX2 66 "GroupSeats" "bookings" "I") (by decide +kernel)) (fun _ h9 => h9) rfl dX2_isBooking_6 ?_
    refine lv_icmp_ge (tgt := 16) hx hb dX2_isBooking_9 (by decide) (fun c9 => ?_) (fun c9 => ?_)
    · refine lv_iconst (v := 0) hx hb dX2_isBooking_16 (by decide) ?_
      exact g_zret hx hb hr hlocks (by first | exact Or.inl rfl | exact Or.inr rfl) (Nat.le_of_ble_eq_true rfl) (Nat.le_of_ble_eq_true rfl) hK hP hD hS dX2_isBooking_17 (⟨rfl, g_is0 (by intro h; simp only [Int32.le_iff_toInt_le, Int32.lt_iff_toInt_lt, gl_m1, gl_0, gl_1, gl_2, gl_3, gl_5, gl_6, gl_8, gl_9, gl_10, gl_11, gl_20, gl_40, gl_60] at h c1 c9; omega)⟩)
    · refine lv_iconst (v := 1) hx hb dX2_isBooking_12 (by decide) ?_
      refine lv_goto (tgt := 17) hx hb dX2_isBooking_13 (by decide) ?_
      exact g_zret hx hb hr hlocks (by first | exact Or.inl rfl | exact Or.inr rfl) (Nat.le_of_ble_eq_true rfl) (Nat.le_of_ble_eq_true rfl) hK hP hD hS dX2_isBooking_17 (⟨rfl, g_is1 (by simp only [Int32.le_iff_toInt_le, Int32.lt_iff_toInt_lt, gl_m1, gl_0, gl_1, gl_2, gl_3, gl_5, gl_6, gl_8, gl_9, gl_10, gl_11, gl_20, gl_40, gl_60] at c1 c9 ⊢; omega)⟩)
set_option maxHeartbeats 4000000 in
set_option maxRecDepth 100000 in
/-- isWaiting(x) -/
theorem c_isWaiting (l : Launch) (D : va_G) (K : gCl) (ws : va_W) (h0 hr hc hq co : Nat) (bk wt mh fl x : Int32) (sz : Nat) (he : ws[0]? = some (h0, gObj hr hc hq co bk wt mh fl)) : gMi l yX2_isWaiting wsX2_isWaiting ({ frames := 0, cells := 0, slots := 0, locals := 0 } : Room) D vwCl (gT K) [.ref h0, .int x] (ws) sz (fun r w => w = ws ∧ (r = 0 ↔ ¬ (0 ≤ x ∧ x < wt))) 0 0 := by
  refine g_of (cc := cX2_isWaiting) (maxL := 2) (ret := (some .boolean)) (Qc := fun A => va_Qi (fun r w => w = ws ∧ (r = 0 ↔ ¬ (0 ≤ x ∧ x < wt))) (gB D vwCl (gT K) A) A) (by decide) rfl (Nat.le_of_ble_eq_true rfl) ?_
  intro p e s m below meth c A ls I hl
  have I0 := I
  obtain ⟨hx, hb, hr, hml, hown, hts, hlocks, hnm, hA, hK, hP, hD, hS⟩ := I
  have hown : s.vm.findClass RX2 = some m.cls := hown
  have hl : lv_has ls 2 [(0, .ref h0), (1, .int x)] := hl
  have hi_X2 : ∀ w ∈ u_ws RX2 TX2 8, w ∈ wsX2_isWaiting := by decide +kernel
  refine lv_iload_n hx hb dX2_isWaiting_0 rfl (lv_at hl 1 rfl) ?_
  refine lv_if_lt (tgt := 16) hx hb dX2_isWaiting_1 (by decide) (fun c1 => ?_) (fun c1 => ?_)
  · refine lv_iconst (v := 0) hx hb dX2_isWaiting_16 (by decide) ?_
    exact g_zret hx hb hr hlocks (by first | exact Or.inl rfl | exact Or.inr rfl) (Nat.le_of_ble_eq_true rfl) (Nat.le_of_ble_eq_true rfl) hK hP hD hS dX2_isWaiting_17 (⟨rfl, g_is0 (by intro h; simp only [Int32.le_iff_toInt_le, Int32.lt_iff_toInt_lt, gl_m1, gl_0, gl_1, gl_2, gl_3, gl_5, gl_6, gl_8, gl_9, gl_10, gl_11, gl_20, gl_40, gl_60] at h c1; omega)⟩)
  · refine lv_iload_n hx hb dX2_isWaiting_4 rfl (lv_at hl 1 rfl) ?_
    refine lv_aload_n hx hb dX2_isWaiting_5 rfl (lv_at hl 0 rfl) ?_
    refine va_get (C := RX2) (T := TX2) (N := 8) (ci := 2) hx hb hts hi_X2 hown hK hP (0) (he) rfl 5 (by decide) (hts (.fieldLink RX2 77 "GroupSeats" "waiters" "I") (by decide +kernel)) (fun _ h9 => h9) rfl dX2_isWaiting_6 ?_
    refine lv_icmp_ge (tgt := 16) hx hb dX2_isWaiting_9 (by decide) (fun c9 => ?_) (fun c9 => ?_)
    · refine lv_iconst (v := 0) hx hb dX2_isWaiting_16 (by decide) ?_
      exact g_zret hx hb hr hlocks (by first | exact Or.inl rfl | exact Or.inr rfl) (Nat.le_of_ble_eq_true rfl) (Nat.le_of_ble_eq_true rfl) hK hP hD hS dX2_isWaiting_17 (⟨rfl, g_is0 (by intro h; simp only [Int32.le_iff_toInt_le, Int32.lt_iff_toInt_lt, gl_m1, gl_0, gl_1, gl_2, gl_3, gl_5, gl_6, gl_8, gl_9, gl_10, gl_11, gl_20, gl_40, gl_60] at h c1 c9; omega)⟩)
    · refine lv_iconst (v := 1) hx hb dX2_isWaiting_12 (by decide) ?_
      refine lv_goto (tgt := 17) hx hb dX2_isWaiting_13 (by decide) ?_
      exact g_zret hx hb hr hlocks (by first | exact Or.inl rfl | exact Or.inr rfl) (Nat.le_of_ble_eq_true rfl) (Nat.le_of_ble_eq_true rfl) hK hP hD hS dX2_isWaiting_17 (⟨rfl, g_is1 (by simp only [Int32.le_iff_toInt_le, Int32.lt_iff_toInt_lt, gl_m1, gl_0, gl_1, gl_2, gl_3, gl_5, gl_6, gl_8, gl_9, gl_10, gl_11, gl_20, gl_40, gl_60] at c1 c9 ⊢; omega)⟩)
set_option maxHeartbeats 4000000 in
set_option maxRecDepth 100000 in
/-- Row.isOpen() -/
theorem c_isOpen (l : Launch) (D : va_G) (K : gCl) (ws : va_W) (a oa q0 : Nat) (z sd ho bk : Int32) (sz : Nat) (he : ws[q0]? = some (a, gRow oa z sd ho bk)) : gMi l yX1_isOpen wsX1_isOpen ({ frames := 0, cells := 0, slots := 0, locals := 0 } : Room) D vwCl (gT K) [.ref a] (ws) sz (fun r w => w = ws ∧ (r = 0 ↔ ¬ 0 < z)) 0 0 := by
  refine g_of (cc := cX1_isOpen) (maxL := 1) (ret := (some .boolean)) (Qc := fun A => va_Qi (fun r w => w = ws ∧ (r = 0 ↔ ¬ 0 < z)) (gB D vwCl (gT K) A) A) (by decide) rfl (Nat.le_of_ble_eq_true rfl) ?_
  intro p e s m below meth c A ls I hl
  have I0 := I
  obtain ⟨hx, hb, hr, hml, hown, hts, hlocks, hnm, hA, hK, hP, hD, hS⟩ := I
  have hown : s.vm.findClass RX1 = some m.cls := hown
  have hl : lv_has ls 1 [(0, .ref a)] := hl
  have hi_X1 : ∀ w ∈ u_ws RX1 TX1 5, w ∈ wsX1_isOpen := by decide +kernel
  refine lv_aload_n hx hb dX1_isOpen_0 rfl (lv_at hl 0 rfl) ?_
  refine va_get (C := RX1) (T := TX1) (N := 5) (ci := 1) hx hb hts hi_X1 hown hK hP (q0) (he) rfl 1 (by decide) (hts (.fieldLink RX1 15 "GroupSeats$Row" "size" "I") (by decide +kernel)) (fun _ h9 => h9) rfl dX1_isOpen_1 ?_
  refine lv_if_le (tgt := 11) hx hb dX1_isOpen_4 (by decide) (fun c4 => ?_) (fun c4 => ?_)
  · refine lv_iconst (v := 0) hx hb dX1_isOpen_11 (by decide) ?_
    exact g_zret hx hb hr hlocks (by first | exact Or.inl rfl | exact Or.inr rfl) (Nat.le_of_ble_eq_true rfl) (Nat.le_of_ble_eq_true rfl) hK hP hD hS dX1_isOpen_12 (⟨rfl, g_is0 (by intro h; simp only [Int32.le_iff_toInt_le, Int32.lt_iff_toInt_lt, gl_m1, gl_0, gl_1, gl_2, gl_3, gl_5, gl_6, gl_8, gl_9, gl_10, gl_11, gl_20, gl_40, gl_60] at h c4; omega)⟩)
  · refine lv_iconst (v := 1) hx hb dX1_isOpen_7 (by decide) ?_
    refine lv_goto (tgt := 12) hx hb dX1_isOpen_8 (by decide) ?_
    exact g_zret hx hb hr hlocks (by first | exact Or.inl rfl | exact Or.inr rfl) (Nat.le_of_ble_eq_true rfl) (Nat.le_of_ble_eq_true rfl) hK hP hD hS dX1_isOpen_12 (⟨rfl, g_is1 (by simp only [Int32.le_iff_toInt_le, Int32.lt_iff_toInt_lt, gl_m1, gl_0, gl_1, gl_2, gl_3, gl_5, gl_6, gl_8, gl_9, gl_10, gl_11, gl_20, gl_40, gl_60] at c4 ⊢; omega)⟩)
set_option maxHeartbeats 4000000 in
set_option maxRecDepth 100000 in
/-- the model: in(x, lo, hi) -/
theorem c_in (l : Launch) (D : va_G) (K : gCl) (ws : va_W) (x lo hi : Int32) (sz : Nat)  : gMi l yX3_in wsX3_in ({ frames := 0, cells := 0, slots := 0, locals := 0 } : Room) D vwCl (gT K) [.int x, .int lo, .int hi] (ws) sz (fun r w => w = ws ∧ (r = 0 ↔ ¬ (lo ≤ x ∧ x ≤ hi))) 0 0 := by
  refine g_of (cc := cX3_in) (maxL := 3) (ret := (some .boolean)) (Qc := fun A => va_Qi (fun r w => w = ws ∧ (r = 0 ↔ ¬ (lo ≤ x ∧ x ≤ hi))) (gB D vwCl (gT K) A) A) (by decide) rfl (Nat.le_of_ble_eq_true rfl) ?_
  intro p e s m below meth c A ls I hl
  have I0 := I
  obtain ⟨hx, hb, hr, hml, hown, hts, hlocks, hnm, hA, hK, hP, hD, hS⟩ := I
  have hown : s.vm.findClass RX3 = some m.cls := hown
  have hl : lv_has ls 3 [(0, .int x), (1, .int lo), (2, .int hi)] := hl
  refine lv_iload_n hx hb dX3_in_0 rfl (lv_at hl 0 rfl) ?_
  refine lv_iload_n hx hb dX3_in_1 rfl (lv_at hl 1 rfl) ?_
  refine lv_icmp_lt (tgt := 14) hx hb dX3_in_2 (by decide) (fun c2 => ?_) (fun c2 => ?_)
  · refine lv_iconst (v := 0) hx hb dX3_in_14 (by decide) ?_
    exact g_zret hx hb hr hlocks (by first | exact Or.inl rfl | exact Or.inr rfl) (Nat.le_of_ble_eq_true rfl) (Nat.le_of_ble_eq_true rfl) hK hP hD hS dX3_in_15 (⟨rfl, g_is0 (by intro h; simp only [Int32.le_iff_toInt_le, Int32.lt_iff_toInt_lt, gl_m1, gl_0, gl_1, gl_2, gl_3, gl_5, gl_6, gl_8, gl_9, gl_10, gl_11, gl_20, gl_40, gl_60] at h c2; omega)⟩)
  · refine lv_iload_n hx hb dX3_in_5 rfl (lv_at hl 0 rfl) ?_
    refine lv_iload_n hx hb dX3_in_6 rfl (lv_at hl 2 rfl) ?_
    refine lv_icmp_gt (tgt := 14) hx hb dX3_in_7 (by decide) (fun c7 => ?_) (fun c7 => ?_)
    · refine lv_iconst (v := 0) hx hb dX3_in_14 (by decide) ?_
      exact g_zret hx hb hr hlocks (by first | exact Or.inl rfl | exact Or.inr rfl) (Nat.le_of_ble_eq_true rfl) (Nat.le_of_ble_eq_true rfl) hK hP hD hS dX3_in_15 (⟨rfl, g_is0 (by intro h; simp only [Int32.le_iff_toInt_le, Int32.lt_iff_toInt_lt, gl_m1, gl_0, gl_1, gl_2, gl_3, gl_5, gl_6, gl_8, gl_9, gl_10, gl_11, gl_20, gl_40, gl_60] at h c2 c7; omega)⟩)
    · refine lv_iconst (v := 1) hx hb dX3_in_10 (by decide) ?_
      refine lv_goto (tgt := 15) hx hb dX3_in_11 (by decide) ?_
      exact g_zret hx hb hr hlocks (by first | exact Or.inl rfl | exact Or.inr rfl) (Nat.le_of_ble_eq_true rfl) (Nat.le_of_ble_eq_true rfl) hK hP hD hS dX3_in_15 (⟨rfl, g_is1 (by simp only [Int32.le_iff_toInt_le, Int32.lt_iff_toInt_lt, gl_m1, gl_0, gl_1, gl_2, gl_3, gl_5, gl_6, gl_8, gl_9, gl_10, gl_11, gl_20, gl_40, gl_60] at c2 c7 ⊢; omega)⟩)
set_option maxHeartbeats 4000000 in
set_option maxRecDepth 100000 in
/-- new Party() -/
theorem c_Party_init (l : Launch) (D : va_G) (K : gCl) (h0 : Nat) (sz : Nat)  : gMv l yX0_init wsX0_init ({ frames := 1, cells := 1, slots := 6, locals := 12 } : Room) D vwCl (gT K) [.ref h0] ([(h0, .inr (0, [.null, .int 0, .int 0, .int 0]))]) sz (fun w => ∃ q : Nat, w = [(h0, gPar q 0 0 0), (q, gArr K.1 6 (fun _ => 0))]) 1 6 := by
  refine g_of (cc := cX0_init) (maxL := 1) (ret := none) (Qc := fun A => va_Qv (fun w => ∃ q : Nat, w = [(h0, gPar q 0 0 0), (q, gArr K.1 6 (fun _ => 0))]) (gB D vwCl (gT K) A) A) (by decide) rfl (Nat.le_of_ble_eq_true rfl) ?_
  intro p e s m below meth c A ls I hl
  have I0 := I
  obtain ⟨hx, hb, hr, hml, hown, hts, hlocks, hnm, hA, hK, hP, hD, hS⟩ := I
  have hown : s.vm.findClass RX0 = some m.cls := hown
  have hl : lv_has ls 1 [(0, .ref h0)] := hl
  have hi_X0 : ∀ w ∈ u_ws RX0 TX0 4, w ∈ wsX0_init := by decide +kernel
  refine lv_aload_n hx hb dX0_init_0 rfl (lv_at hl 0 rfl) ?_
  refine W.objInit hx hb hown (hts (.methodLink RX0 3 objectInit) (by decide +kernel)) (hts (.instanceMethod objectInit) (by decide +kernel)) (hts _ (List.mem_cons_of_mem _ (List.mem_append_left _ (List.mem_of_getElem? (i := 2) rfl)))) rfl (by rw [hml]; exact hl.1) rfl dX0_init_1 (Nat.le_of_ble_eq_true rfl) (Nat.le_of_ble_eq_true rfl) ?_
  refine W.eq (g2 := F0 m 4 ls []) rfl ?_
  refine lv_aload_n hx hb dX0_init_4 rfl (lv_at hl 0 rfl) ?_
  refine lv_bipush (v := 6) hx hb dX0_init_5 (by decide) ?_
  refine g_newa (atype := .int) (ty := .int) (N' := 6) (a0 := (6, .inl (fun _ => 0))) hx hb (hts (.arrayClass .int) (by decide +kernel)) rfl hK hP hD hS hA 0 rfl (fun _ => rfl) (by decide) (by decide) (Nat.le_of_ble_eq_true rfl) (Nat.le_of_ble_eq_true rfl) (Nat.le_of_ble_eq_true rfl) dX0_init_7 (fun q H hP hD hS => ?_)
  refine va_putF (C := RX0) (T := TX0) (N := 4) (ci := 0) (ty := .array .int) hx hb hts hi_X0 tyX0 tyX0_ok nmX0 hown hK hP hD hS (0) (rfl) rfl 0 (by decide) (hts (.fieldLink RX0 9 "GroupSeats$Party" "numbers" "[I") (by decide +kernel)) (fun _ h9 => h9) rfl hnm rfl (by decide +kernel) rfl rfl (Nat.le_of_ble_eq_true rfl) dX0_init_9 (fun H locs hP hD hS => ?_)
  exact g_vret hx hb hr hlocks (Nat.le_refl _) (Nat.le_refl _) hK hP hD hS dX0_init_12 (⟨q, rfl⟩)
set_option maxHeartbeats 4000000 in
set_option maxRecDepth 100000 in
/-- new Row() -/
theorem c_Row_init (l : Launch) (D : va_G) (K : gCl) (h0 : Nat) (sz : Nat)  : gMv l yX1_init wsX1_init ({ frames := 1, cells := 1, slots := 20, locals := 12 } : Room) D vwCl (gT K) [.ref h0] ([(h0, .inr (1, [.null, .int 0, .int 0, .int 0, .int 0]))]) sz (fun w => ∃ q : Nat, w = [(h0, gRow q 0 0 0 0), (q, gArr K.1 20 (fun _ => 0))]) 1 20 := by
  refine g_of (cc := cX1_init) (maxL := 1) (ret := none) (Qc := fun A => va_Qv (fun w => ∃ q : Nat, w = [(h0, gRow q 0 0 0 0), (q, gArr K.1 20 (fun _ => 0))]) (gB D vwCl (gT K) A) A) (by decide) rfl (Nat.le_of_ble_eq_true rfl) ?_
  intro p e s m below meth c A ls I hl
  have I0 := I
  obtain ⟨hx, hb, hr, hml, hown, hts, hlocks, hnm, hA, hK, hP, hD, hS⟩ := I
  have hown : s.vm.findClass RX1 = some m.cls := hown
  have hl : lv_has ls 1 [(0, .ref h0)] := hl
  have hi_X1 : ∀ w ∈ u_ws RX1 TX1 5, w ∈ wsX1_init := by decide +kernel
  refine lv_aload_n hx hb dX1_init_0 rfl (lv_at hl 0 rfl) ?_
  refine W.objInit hx hb hown (hts (.methodLink RX1 3 objectInit) (by decide +kernel)) (hts (.instanceMethod objectInit) (by decide +kernel)) (hts _ (List.mem_cons_of_mem _ (List.mem_append_left _ (List.mem_of_getElem? (i := 2) rfl)))) rfl (by rw [hml]; exact hl.1) rfl dX1_init_1 (Nat.le_of_ble_eq_true rfl) (Nat.le_of_ble_eq_true rfl) ?_
  refine W.eq (g2 := F0 m 4 ls []) rfl ?_
  refine lv_aload_n hx hb dX1_init_4 rfl (lv_at hl 0 rfl) ?_
  refine lv_bipush (v := 20) hx hb dX1_init_5 (by decide) ?_
  refine g_newa (atype := .int) (ty := .int) (N' := 20) (a0 := (20, .inl (fun _ => 0))) hx hb (hts (.arrayClass .int) (by decide +kernel)) rfl hK hP hD hS hA 0 rfl (fun _ => rfl) (by decide) (by decide) (Nat.le_of_ble_eq_true rfl) (Nat.le_of_ble_eq_true rfl) (Nat.le_of_ble_eq_true rfl) dX1_init_7 (fun q H hP hD hS => ?_)
  refine va_putF (C := RX1) (T := TX1) (N := 5) (ci := 1) (ty := .array .int) hx hb hts hi_X1 tyX1 tyX1_ok nmX1 hown hK hP hD hS (0) (rfl) rfl 0 (by decide) (hts (.fieldLink RX1 9 "GroupSeats$Row" "owners" "[I") (by decide +kernel)) (fun _ h9 => h9) rfl hnm rfl (by decide +kernel) rfl rfl (Nat.le_of_ble_eq_true rfl) dX1_init_9 (fun H locs hP hD hS => ?_)
  exact g_vret hx hb hr hlocks (Nat.le_refl _) (Nat.le_refl _) hK hP hD hS dX1_init_12 (⟨q, rfl⟩)
set_option maxHeartbeats 4000000 in
set_option maxRecDepth 100000 in
theorem lp_begin {p : Program} {l : Launch} {e : Env} {s : State} {m : MethodId} {args : Array Value} {below : List Frame} {meth : Method} {c : Code} {A : Nat → Prop} {D : va_G} {K : gCl} {rm : Room} {ws0 wsF : va_W} {a o q0 q1 : Nat} {n z sd ho bk : Int32} {f : Nat → Int32} (hne : q0 ≠ q1)
    (I : gIn p s m meth c A yX1_begin wsX1_begin cX1_begin 3 none args D vwCl (gT K) ws0) :
    ∀ (k i : Nat), i + k = 20 → ∀ (ws : va_W), ws[q0]? = some (a, gRow o z sd ho bk) → ws[q1]? = some (o, gArr K.1 20 (gFill (-8) i f)) → ws.set q1 (o, gArr K.1 20 (gFill (-8) 20 f)) = wsF →
    ∀ (H : Heap) (locs : List Loc), va_P D vwCl ws H → va_D A ws → va_S A s.heap H locs → ∀ (ls : Array Slot), lv_has ls 3 [(2, .int (nI i)), (0, .ref a), (1, .int n)] →
    W p l e rm s m args below meth c H locs 0 0 (MQ below (va_Qv (fun w => w = wsF) (gB D vwCl (gT K) A) A) args s 0 0 A) (F0 m 17 ls []) := by
  obtain ⟨hx, hb, hr, hml, hown, hts, hlocks, hnm, hA, hK, -, -, -⟩ := I
  have hown : s.vm.findClass RX1 = some m.cls := hown
  have hi_X1 : ∀ w ∈ u_ws RX1 TX1 5, w ∈ wsX1_begin := by decide +kernel
  intro k
  induction k with
  | zero =>
    intro i hi ws he0 he1 hF H locs hP hD hS ls hl
    have hi20 : i = 20 := by omega
    subst hi20
    refine lv_iload_n hx hb dX1_begin_17 rfl (lv_at hl 0 rfl) ?_
    refine lv_bipush (v := 20) hx hb dX1_begin_18 (by decide) ?_
    refine lv_icmp_ge (tgt := 37) hx hb dX1_begin_20 (by decide) (fun c20 => ?_) (fun c20 => absurd (by decide) c20)
    exact g_vret hx hb hr hlocks (Nat.le_refl _) (Nat.le_refl _) hK hP hD hS dX1_begin_37 ((g_setid he1).symm.trans hF)
  | succ k ih =>
    intro i hi ws he0 he1 hF H locs hP hD hS ls hl
    have ih := fun (j : Nat) (hj : j + k = 20) => ih j hj
    refine lv_iload_n hx hb dX1_begin_17 rfl (lv_at hl 0 rfl) ?_
    refine lv_bipush (v := 20) hx hb dX1_begin_18 (by decide) ?_
    refine lv_icmp_ge (tgt := 37) hx hb dX1_begin_20 (by decide) (fun c20 => ?_) (fun c20 => ?_)
    · have hi20 : i = 20 := by
        rcases Nat.lt_or_ge i 20 with q | q
        · exact absurd c20 (nI_ge (b := 20) q (by decide))
        · omega
      subst hi20
      exact g_vret hx hb hr hlocks (Nat.le_of_ble_eq_true rfl) (Nat.le_of_ble_eq_true rfl) hK hP hD hS dX1_begin_37 ((g_setid he1).symm.trans hF)
    · have hlt : i < 20 := by
        rcases Nat.lt_or_ge i 20 with q | q
        · exact q
        · exact absurd (nI_le (a := 20) q (by omega)) c20
      refine lv_aload_n hx hb dX1_begin_23 rfl (lv_at hl 1 rfl) ?_
      refine va_get (C := RX1) (T := TX1) (N := 5) (ci := 1) hx hb hts hi_X1 hown hK hP (q0) (he0) rfl 0 (by decide) (hts (.fieldLink RX1 9 "GroupSeats$Row" "owners" "[I") (by decide +kernel)) (fun _ h9 => h9) rfl dX1_begin_24 ?_
      refine lv_iload_n hx hb dX1_begin_27 rfl (lv_at hl 0 rfl) ?_
      refine lv_bipush (v := -8) hx hb dX1_begin_28 (by decide) ?_
      refine va_iast hx hb hK hP hD hS (q1) 0 (he1) rfl (vp_in_nI (show i < 20 by omega) (by decide)) dX1_begin_30 (fun H locs hP hD hS => ?_)
      refine lv_iinc (lv' := [(2, .int _), (0, .ref _), (1, .int _)]) hx hb dX1_begin_31 hl (k := 0) rfl rfl (by decide) rfl (fun ls hl => ?_)
      refine lv_goto (tgt := 17) hx hb dX1_begin_34 (by decide) ?_
      rw [g_inc] at hl
      exact ih (i + 1) (by omega) _ (g_setne (Ne.symm hne) he0) ((g_setself he1).trans (by rw [gFill_up (-8) f (by omega)])) (by rw [List.set_set]; exact hF) H locs hP hD hS ls (lv_sub hl [0, 1, 2] rfl)
set_option maxHeartbeats 4000000 in
set_option maxRecDepth 100000 in
/-- Row.begin(n): n seats, all free, not side by side, no backs -/
theorem c_begin (l : Launch) (D : va_G) (K : gCl) (ws : va_W) (a o q0 q1 : Nat) (z sd ho bk n : Int32) (f : Nat → Int32) (sz : Nat) (hne : q0 ≠ q1) (he0 : ws[q0]? = some (a, gRow o z sd ho bk)) (he1 : ws[q1]? = some (o, gArr K.1 20 f)) : gMv l yX1_begin wsX1_begin ({ frames := 0, cells := 0, slots := 0, locals := 0 } : Room) D vwCl (gT K) [.ref a, .int n] (ws) sz (fun w => w = (ws.set q0 (a, gRow o n 0 ho 0)).set q1 (o, gArr K.1 20 (gFill (-8) 20 f))) 0 0 := by
  refine g_of (cc := cX1_begin) (maxL := 3) (ret := none) (Qc := fun A => va_Qv (fun w => w = (ws.set q0 (a, gRow o n 0 ho 0)).set q1 (o, gArr K.1 20 (gFill (-8) 20 f))) (gB D vwCl (gT K) A) A) (by decide) rfl (Nat.le_of_ble_eq_true rfl) ?_
  intro p e s m below meth c A ls I hl
  have I0 := I
  obtain ⟨hx, hb, hr, hml, hown, hts, hlocks, hnm, hA, hK, hP, hD, hS⟩ := I
  have hown : s.vm.findClass RX1 = some m.cls := hown
  have hl : lv_has ls 3 [(0, .ref a), (1, .int n)] := hl
  have hi_X1 : ∀ w ∈ u_ws RX1 TX1 5, w ∈ wsX1_begin := by decide +kernel
  refine lv_aload_n hx hb dX1_begin_0 rfl (lv_at hl 0 rfl) ?_
  refine lv_iload_n hx hb dX1_begin_1 rfl (lv_at hl 1 rfl) ?_
  refine va_put (C := RX1) (T := TX1) (N := 5) (ci := 1) (ty := .int) hx hb hts hi_X1 tyX1 tyX1_ok nmX1 hown hK hP hD hS (q0) (he0) rfl 1 (by decide) (hts (.fieldLink RX1 15 "GroupSeats$Row" "size" "I") (by decide +kernel)) (fun _ h9 => h9) rfl (by decide +kernel) rfl rfl (Nat.le_of_ble_eq_true rfl) dX1_begin_2 (fun H locs hP hD hS => ?_)
  refine lv_aload_n hx hb dX1_begin_5 rfl (lv_at hl 0 rfl) ?_
  refine lv_iconst (v := 0) hx hb dX1_begin_6 (by decide) ?_
  refine va_put (C := RX1) (T := TX1) (N := 5) (ci := 1) (ty := .boolean) hx hb hts hi_X1 tyX1 tyX1_ok nmX1 hown hK hP hD hS (q0) (g_setself he0) rfl 2 (by decide) (hts (.fieldLink RX1 19 "GroupSeats$Row" "sideBySide" "Z") (by decide +kernel)) (fun _ h9 => h9) rfl (by decide +kernel) rfl rfl (Nat.le_of_ble_eq_true rfl) dX1_begin_7 (fun H locs hP hD hS => ?_)
  refine lv_aload_n hx hb dX1_begin_10 rfl (lv_at hl 0 rfl) ?_
  refine lv_iconst (v := 0) hx hb dX1_begin_11 (by decide) ?_
  refine va_put (C := RX1) (T := TX1) (N := 5) (ci := 1) (ty := .int) hx hb hts hi_X1 tyX1 tyX1_ok nmX1 hown hK hP hD hS (q0) (g_setself (g_setself he0)) rfl 4 (by decide) (hts (.fieldLink RX1 23 "GroupSeats$Row" "backs" "I") (by decide +kernel)) (fun _ h9 => h9) rfl (by decide +kernel) rfl rfl (Nat.le_of_ble_eq_true rfl) dX1_begin_12 (fun H locs hP hD hS => ?_)
  refine lv_iconst (v := 0) hx hb dX1_begin_15 (by decide) ?_
  refine lv_istore_n (lv' := [(2, .int _), (0, .ref _), (1, .int _)]) hx hb dX1_begin_16 rfl hl (by decide) rfl (fun ls hl => ?_)
  exact lp_begin hne I0 20 0 rfl _ (g_setself (g_setself (g_setself he0))) (g_setne hne (g_setne hne (g_setne hne (by rw [gFill_0]; exact he1)))) (by simp only [List.set_set, List.set]) H locs hP hD hS ls (lv_sub hl [0, 1, 2] rfl)
