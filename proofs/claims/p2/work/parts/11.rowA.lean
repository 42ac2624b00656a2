set_option maxHeartbeats 4000000 in
set_option maxRecDepth 100000 in
theorem lp_seatsOf {p : Program} {l : Launch} {e : Env} {s : State} {m : MethodId} {args : Array Value} {below : List Frame} {meth : Method} {c : Code} {A : Nat → Prop} {D : va_G} {K : gCl} {ws0 : va_W} {rm : Room} {ws : va_W} {a o q0 q1 z : Nat} {sd ho bk : Int32} {f : Nat → Int32} {v : Int32} (hz : z ≤ 20) (he0 : ws[q0]? = some (a, gRow o (nI z) sd ho bk)) (he1 : ws[q1]? = some (o, gArr K.1 20 f))
    (I : gIn p s m meth c A yX1_seatsOf wsX1_seatsOf cX1_seatsOf 4 (some .int) args D vwCl (gT K) ws0)  :
    ∀ (k : Nat) (i : Nat) (H : Heap) (locs : List Loc), i + k = z → va_P D vwCl (ws) H → va_D A (ws) → va_S A s.heap H locs →
    ∀ (ls : Array Slot), lv_has ls 4 [(3, .int (nI i)), (2, .int (nI (cntV f v i))), (0, .ref a), (1, .int v)] →
    W p l e rm s m args below meth c H locs 0 0 (MQ below (va_Qi (fun r w => w = ws ∧ r = nI (cntV f v z)) (gB D vwCl (gT K) A) A) args s 0 0 A) (F0 m 4 ls []) := by
  have I0 := I
  obtain ⟨hx, hb, hr, hml, hown, hts, hlocks, hnm, hA, hK, -, -, -⟩ := I
  have hown : s.vm.findClass RX1 = some m.cls := hown
  have hi_X1 : ∀ w ∈ u_ws RX1 TX1 5, w ∈ wsX1_seatsOf := by decide +kernel
  intro k
  induction k with
  | zero =>
    intro i H locs hi hP hD hS ls hl
    have hiz : i = z := by omega
    subst hiz
    refine lv_iload_n hx hb dX1_seatsOf_4 rfl (lv_at hl 0 rfl) ?_
    refine lv_aload_n hx hb dX1_seatsOf_5 rfl (lv_at hl 2 rfl) ?_
    refine va_get (C := RX1) (T := TX1) (N := 5) (ci := 1) hx hb hts hi_X1 hown hK hP (q0) (he0) rfl 1 (by decide) (hts (.fieldLink RX1 15 "GroupSeats$Row" "size" "I") (by decide +kernel)) (fun _ h9 => h9) rfl dX1_seatsOf_6 ?_
    refine lv_icmp_ge (tgt := 31) hx hb dX1_seatsOf_9 (by decide) (fun c9 => ?_) (fun c9 => ?_)
    · refine lv_iload_n hx hb dX1_seatsOf_31 rfl (lv_at hl 1 rfl) ?_
      exact g_iret hx hb hr hlocks (Nat.le_of_ble_eq_true rfl) (Nat.le_of_ble_eq_true rfl) hK hP hD hS dX1_seatsOf_32 (⟨rfl, rfl⟩)
    · exact absurd (nI_le (by omega) (by omega)) c9
  | succ k ih =>
    intro i H locs hi hP hD hS ls hl
    refine lv_iload_n hx hb dX1_seatsOf_4 rfl (lv_at hl 0 rfl) ?_
    refine lv_aload_n hx hb dX1_seatsOf_5 rfl (lv_at hl 2 rfl) ?_
    refine va_get (C := RX1) (T := TX1) (N := 5) (ci := 1) hx hb hts hi_X1 hown hK hP (q0) (he0) rfl 1 (by decide) (hts (.fieldLink RX1 15 "GroupSeats$Row" "size" "I") (by decide +kernel)) (fun _ h9 => h9) rfl dX1_seatsOf_6 ?_
    refine lv_icmp_ge (tgt := 31) hx hb dX1_seatsOf_9 (by decide) (fun c9 => ?_) (fun c9 => ?_)
    · exact absurd c9 (nI_ge (by omega) (by omega))
    · refine lv_aload_n hx hb dX1_seatsOf_12 rfl (lv_at hl 2 rfl) ?_
      refine va_get (C := RX1) (T := TX1) (N := 5) (ci := 1) hx hb hts hi_X1 hown hK hP (q0) (he0) rfl 0 (by decide) (hts (.fieldLink RX1 9 "GroupSeats$Row" "owners" "[I") (by decide +kernel)) (fun _ h9 => h9) rfl dX1_seatsOf_13 ?_
      refine lv_iload_n hx hb dX1_seatsOf_16 rfl (lv_at hl 0 rfl) ?_
      refine va_iald hx hb hK hP (q1) 0 (he1) rfl (vp_in_nI (show i < 20 by omega) (by decide)) dX1_seatsOf_17 ?_
      refine lv_iload_n hx hb dX1_seatsOf_18 rfl (lv_at hl 3 rfl) ?_
      refine lv_icmp_ne (tgt := 25) hx hb dX1_seatsOf_19 (by decide) (fun c19 => ?_) (fun c19 => ?_)
      · refine lv_iinc (lv' := [(3, .int _), (2, .int _), (0, .ref _), (1, .int _)]) hx hb dX1_seatsOf_25 hl (k := 0) rfl rfl (by decide) rfl (fun ls hl => ?_)
        refine lv_goto (tgt := 4) hx hb dX1_seatsOf_28 (by decide) ?_
        rw [nI_clamp (by omega)] at c19
        rw [g_inc] at hl
        have e1 : cntV f v (i + 1) = cntV f v i := by simp [cntV, c19]
        rw [← e1] at hl
        exact ih (i + 1) H locs (by omega) hP hD hS ls (lv_sub hl [0, 1, 2, 3] rfl)
      · refine lv_iinc (lv' := [(2, .int _), (3, .int _), (0, .ref _), (1, .int _)]) hx hb dX1_seatsOf_22 hl (k := 1) rfl rfl (by decide) rfl (fun ls hl => ?_)
        refine lv_iinc (lv' := [(3, .int _), (2, .int _), (0, .ref _), (1, .int _)]) hx hb dX1_seatsOf_25 hl (k := 1) rfl rfl (by decide) rfl (fun ls hl => ?_)
        refine lv_goto (tgt := 4) hx hb dX1_seatsOf_28 (by decide) ?_
        rw [nI_clamp (by omega)] at c19
        rw [g_inc] at hl
        rw [g_inc] at hl
        have e1 : cntV f v (i + 1) = cntV f v i + 1 := by simp [cntV, c19]
        rw [← e1] at hl
        exact ih (i + 1) H locs (by omega) hP hD hS ls (lv_sub hl [0, 1, 2, 3] rfl)
set_option maxHeartbeats 4000000 in
set_option maxRecDepth 100000 in
/-- Row.seatsOf(v) -/
theorem c_seatsOf (l : Launch) (D : va_G) (K : gCl) (ws : va_W) (a o q0 q1 z : Nat) (sd ho bk : Int32) (f : Nat → Int32) (v : Int32) (sz : Nat) (hz : z ≤ 20) (he0 : ws[q0]? = some (a, gRow o (nI z) sd ho bk)) (he1 : ws[q1]? = some (o, gArr K.1 20 f)) : gMi l yX1_seatsOf wsX1_seatsOf ({ frames := 0, cells := 0, slots := 0, locals := 0 } : Room) D vwCl (gT K) [.ref a, .int v] (ws) sz (fun r w => w = ws ∧ r = nI (cntV f v z)) 0 0 := by
  refine g_of (cc := cX1_seatsOf) (maxL := 4) (ret := (some .int)) (Qc := fun A => va_Qi (fun r w => w = ws ∧ r = nI (cntV f v z)) (gB D vwCl (gT K) A) A) (by decide) rfl (Nat.le_of_ble_eq_true rfl) ?_
  intro p e s m below meth c A ls I hl
  have I0 := I
  obtain ⟨hx, hb, hr, hml, hown, hts, hlocks, hnm, hA, hK, hP, hD, hS⟩ := I
  have hown : s.vm.findClass RX1 = some m.cls := hown
  have hl : lv_has ls 4 [(0, .ref a), (1, .int v)] := hl
  have hi_X1 : ∀ w ∈ u_ws RX1 TX1 5, w ∈ wsX1_seatsOf := by decide +kernel
  refine lv_iconst (v := 0) hx hb dX1_seatsOf_0 (by decide) ?_
  refine lv_istore_n (lv' := [(2, .int _), (0, .ref _), (1, .int _)]) hx hb dX1_seatsOf_1 rfl hl (by decide) rfl (fun ls hl => ?_)
  refine lv_iconst (v := 0) hx hb dX1_seatsOf_2 (by decide) ?_
  refine lv_istore_n (lv' := [(3, .int _), (2, .int _), (0, .ref _), (1, .int _)]) hx hb dX1_seatsOf_3 rfl hl (by decide) rfl (fun ls hl => ?_)
  exact lp_seatsOf hz he0 he1 I0 z 0 _ _ (by omega) hP hD hS ls (lv_sub hl [0, 1, 2, 3] rfl)
set_option maxHeartbeats 4000000 in
set_option maxRecDepth 100000 in
theorem lp_freeSeatsOf {p : Program} {l : Launch} {e : Env} {s : State} {m : MethodId} {args : Array Value} {below : List Frame} {meth : Method} {c : Code} {A : Nat → Prop} {D : va_G} {K : gCl} {ws0 : va_W} {rm : Room} {wsF : va_W} {a o q0 q1 z : Nat} {sd ho bk : Int32} {f : Nat → Int32} {v : Int32} (hne : q0 ≠ q1) (hz : z ≤ 20)
    (I : gIn p s m meth c A yX1_freeSeatsOf wsX1_freeSeatsOf cX1_freeSeatsOf 3 none args D vwCl (gT K) ws0)  :
    ∀ (k : Nat) (i : Nat) (ws : va_W) (H : Heap) (locs : List Loc), i + k = z → ws[q0]? = some (a, gRow o (nI z) sd ho bk) → ws[q1]? = some (o, gArr K.1 20 (freeV f v i)) → ws.set q1 (o, gArr K.1 20 (freeV f v z)) = wsF → va_P D vwCl (ws) H → va_D A (ws) → va_S A s.heap H locs →
    ∀ (ls : Array Slot), lv_has ls 3 [(2, .int (nI i)), (0, .ref a), (1, .int v)] →
    W p l e rm s m args below meth c H locs 0 0 (MQ below (va_Qv (fun w => w = wsF) (gB D vwCl (gT K) A) A) args s 0 0 A) (F0 m 2 ls []) := by
  have I0 := I
  obtain ⟨hx, hb, hr, hml, hown, hts, hlocks, hnm, hA, hK, -, -, -⟩ := I
  have hown : s.vm.findClass RX1 = some m.cls := hown
  have hi_X1 : ∀ w ∈ u_ws RX1 TX1 5, w ∈ wsX1_freeSeatsOf := by decide +kernel
  intro k
  induction k with
  | zero =>
    intro i ws H locs hi he0 he1 hF hP hD hS ls hl
    have hiz : i = z := by omega
    subst hiz
    refine lv_iload_n hx hb dX1_freeSeatsOf_2 rfl (lv_at hl 0 rfl) ?_
    refine lv_aload_n hx hb dX1_freeSeatsOf_3 rfl (lv_at hl 1 rfl) ?_
    refine va_get (C := RX1) (T := TX1) (N := 5) (ci := 1) hx hb hts hi_X1 hown hK hP (q0) (he0) rfl 1 (by decide) (hts (.fieldLink RX1 15 "GroupSeats$Row" "size" "I") (by decide +kernel)) (fun _ h9 => h9) rfl dX1_freeSeatsOf_4 ?_
    refine lv_icmp_ge (tgt := 34) hx hb dX1_freeSeatsOf_7 (by decide) (fun c7 => ?_) (fun c7 => ?_)
    · exact g_vret hx hb hr hlocks (Nat.le_of_ble_eq_true rfl) (Nat.le_of_ble_eq_true rfl) hK hP hD hS dX1_freeSeatsOf_34 ((g_setid he1).symm.trans hF)
    · exact absurd (nI_le (by omega) (by omega)) c7
  | succ k ih =>
    intro i ws H locs hi he0 he1 hF hP hD hS ls hl
    refine lv_iload_n hx hb dX1_freeSeatsOf_2 rfl (lv_at hl 0 rfl) ?_
    refine lv_aload_n hx hb dX1_freeSeatsOf_3 rfl (lv_at hl 1 rfl) ?_
    refine va_get (C := RX1) (T := TX1) (N := 5) (ci := 1) hx hb hts hi_X1 hown hK hP (q0) (he0) rfl 1 (by decide) (hts (.fieldLink RX1 15 "GroupSeats$Row" "size" "I") (by decide +kernel)) (fun _ h9 => h9) rfl dX1_freeSeatsOf_4 ?_
    refine lv_icmp_ge (tgt := 34) hx hb dX1_freeSeatsOf_7 (by decide) (fun c7 => ?_) (fun c7 => ?_)
    · exact absurd c7 (nI_ge (by omega) (by omega))
    · refine lv_aload_n hx hb dX1_freeSeatsOf_10 rfl (lv_at hl 1 rfl) ?_
      refine va_get (C := RX1) (T := TX1) (N := 5) (ci := 1) hx hb hts hi_X1 hown hK hP (q0) (he0) rfl 0 (by decide) (hts (.fieldLink RX1 9 "GroupSeats$Row" "owners" "[I") (by decide +kernel)) (fun _ h9 => h9) rfl dX1_freeSeatsOf_11 ?_
      refine lv_iload_n hx hb dX1_freeSeatsOf_14 rfl (lv_at hl 0 rfl) ?_
      refine va_iald hx hb hK hP (q1) 0 (he1) rfl (vp_in_nI (show i < 20 by omega) (by decide)) dX1_freeSeatsOf_15 ?_
      refine lv_iload_n hx hb dX1_freeSeatsOf_16 rfl (lv_at hl 2 rfl) ?_
      refine lv_icmp_ne (tgt := 28) hx hb dX1_freeSeatsOf_17 (by decide) (fun c17 => ?_) (fun c17 => ?_)
      · refine lv_iinc (lv' := [(2, .int _), (0, .ref _), (1, .int _)]) hx hb dX1_freeSeatsOf_28 hl (k := 0) rfl rfl (by decide) rfl (fun ls hl => ?_)
        refine lv_goto (tgt := 2) hx hb dX1_freeSeatsOf_31 (by decide) ?_
        rw [nI_clamp (by omega)] at c17
        rw [freeV_at] at c17
        rw [g_inc] at hl
        rw [freeV_no c17] at he1
        exact ih (i + 1) _ H locs (by omega) he0 he1 hF hP hD hS ls (lv_sub hl [0, 1, 2] rfl)
      · refine lv_aload_n hx hb dX1_freeSeatsOf_20 rfl (lv_at hl 1 rfl) ?_
        refine va_get (C := RX1) (T := TX1) (N := 5) (ci := 1) hx hb hts hi_X1 hown hK hP (q0) (he0) rfl 0 (by decide) (hts (.fieldLink RX1 9 "GroupSeats$Row" "owners" "[I") (by decide +kernel)) (fun _ h9 => h9) rfl dX1_freeSeatsOf_21 ?_
        refine lv_iload_n hx hb dX1_freeSeatsOf_24 rfl (lv_at hl 0 rfl) ?_
        refine lv_bipush (v := -8) hx hb dX1_freeSeatsOf_25 (by decide) ?_
        refine va_iast hx hb hK hP hD hS (q1) 0 (he1) rfl (vp_in_nI (show i < 20 by omega) (by decide)) dX1_freeSeatsOf_27 (fun H locs hP hD hS => ?_)
        refine lv_iinc (lv' := [(2, .int _), (0, .ref _), (1, .int _)]) hx hb dX1_freeSeatsOf_28 hl (k := 0) rfl rfl (by decide) rfl (fun ls hl => ?_)
        refine lv_goto (tgt := 2) hx hb dX1_freeSeatsOf_31 (by decide) ?_
        rw [nI_clamp (by omega)] at c17
        rw [freeV_at] at c17
        rw [g_inc] at hl
        rw [nI_clamp (by omega), freeV_yes c17] at hP hD
        exact ih (i + 1) _ H locs (by omega) (g_setne (Ne.symm hne) he0) (g_setself he1) (by rw [List.set_set]; exact hF) hP hD hS ls (lv_sub hl [0, 1, 2] rfl)
set_option maxHeartbeats 4000000 in
set_option maxRecDepth 100000 in
/-- Row.freeSeatsOf(v) -/
theorem c_freeSeatsOf (l : Launch) (D : va_G) (K : gCl) (ws : va_W) (a o q0 q1 z : Nat) (sd ho bk : Int32) (f : Nat → Int32) (v : Int32) (sz : Nat) (hne : q0 ≠ q1) (hz : z ≤ 20) (he0 : ws[q0]? = some (a, gRow o (nI z) sd ho bk)) (he1 : ws[q1]? = some (o, gArr K.1 20 f)) : gMv l yX1_freeSeatsOf wsX1_freeSeatsOf ({ frames := 0, cells := 0, slots := 0, locals := 0 } : Room) D vwCl (gT K) [.ref a, .int v] (ws) sz (fun w => w = ws.set q1 (o, gArr K.1 20 (freeV f v z))) 0 0 := by
  refine g_of (cc := cX1_freeSeatsOf) (maxL := 3) (ret := none) (Qc := fun A => va_Qv (fun w => w = ws.set q1 (o, gArr K.1 20 (freeV f v z))) (gB D vwCl (gT K) A) A) (by decide) rfl (Nat.le_of_ble_eq_true rfl) ?_
  intro p e s m below meth c A ls I hl
  have I0 := I
  obtain ⟨hx, hb, hr, hml, hown, hts, hlocks, hnm, hA, hK, hP, hD, hS⟩ := I
  have hown : s.vm.findClass RX1 = some m.cls := hown
  have hl : lv_has ls 3 [(0, .ref a), (1, .int v)] := hl
  have hi_X1 : ∀ w ∈ u_ws RX1 TX1 5, w ∈ wsX1_freeSeatsOf := by decide +kernel
  refine lv_iconst (v := 0) hx hb dX1_freeSeatsOf_0 (by decide) ?_
  refine lv_istore_n (lv' := [(2, .int _), (0, .ref _), (1, .int _)]) hx hb dX1_freeSeatsOf_1 rfl hl (by decide) rfl (fun ls hl => ?_)
  exact lp_freeSeatsOf hne hz I0 z 0 ws _ _ (by omega) he0 (by rw [freeV_0]; exact he1) rfl hP hD hS ls (lv_sub hl [0, 1, 2] rfl)
def gbF (t : Nat) (f : Nat → Int32) (n : Nat) : Nat → Int32 := fun j => if j < n ∧ t.testBit j = true then -8 else f j
theorem gbF_0 (t : Nat) (f : Nat → Int32) : gbF t f 0 = f := by funext j; simp [gbF]
theorem gbF_yes {t : Nat} {f : Nat → Int32} {n : Nat} (h : t.testBit n = true) : upd (gbF t f n) n (-8) = gbF t f (n + 1) := by
  funext j
  by_cases hj : j = n
  · subst hj
    simp [upd, gbF, h]
  · by_cases h2 : j < n
    · simp [upd, gbF, hj, h2, show j < n + 1 by omega]
    · simp [upd, gbF, hj, h2, show ¬ j < n + 1 by omega]
theorem gbF_no {t : Nat} {f : Nat → Int32} {n : Nat} (h : t.testBit n = false) : gbF t f n = gbF t f (n + 1) := by
  funext j
  by_cases hj : j = n
  · subst hj
    simp [gbF, h]
  · by_cases h2 : j < n
    · simp [gbF, h2, show j < n + 1 by omega]
    · simp [gbF, h2, show ¬ j < n + 1 by omega]
theorem sh_one {i : Nat} (hi : i < 31) : (1 : Int32) <<< (nI i &&& 31) = nI (2 ^ i) := by
  have h : ((nI i &&& 31).toBitVec.smod 32).toNat = i := by
    have : ∀ n, n < 32 → ((nI n &&& 31).toBitVec.smod 32).toNat = n := by decide +kernel
    exact this i (by omega)
  have := pk_shlN (n := 1) (nI i &&& 31) i h (by rw [Nat.one_mul]; exact Nat.pow_lt_pow_right (by decide) (by omega))
  rw [Nat.one_mul] at this
  exact this
theorem bit_test {t i : Nat} (ht : t < 2 ^ 20) (hi : i < 20) : nI t &&& ((1 : Int32) <<< (nI i &&& 31)) = 0 ↔ t.testBit i = false := by
  rw [sh_one (by omega), nx_and, show (0 : Int32) = nI 0 from rfl, nI_eq (Nat.lt_of_le_of_lt Nat.and_le_left (by omega)) (by decide)]
  constructor
  · intro h
    have h2 := congrArg (fun x => x.testBit i) h
    simpa [Nat.testBit_and, Nat.testBit_two_pow_self] using h2
  · intro h
    apply Nat.eq_of_testBit_eq
    intro j
    rw [Nat.testBit_and, Nat.testBit_two_pow]
    by_cases e : i = j
    · subst e
      simp [h]
    · simp [e]
set_option maxHeartbeats 4000000 in
set_option maxRecDepth 100000 in
theorem lp_giveBack {p : Program} {l : Launch} {e : Env} {s : State} {m : MethodId} {args : Array Value} {below : List Frame} {meth : Method} {c : Code} {A : Nat → Prop} {D : va_G} {K : gCl} {ws0 : va_W} {rm : Room} {wsF : va_W} {a o q0 q1 z t : Nat} {sd ho bk : Int32} {f : Nat → Int32} (hne : q0 ≠ q1) (hz : z ≤ 20) (ht : t < 2 ^ 20)
    (I : gIn p s m meth c A yX1_giveBack wsX1_giveBack cX1_giveBack 3 none args D vwCl (gT K) ws0)  :
    ∀ (k : Nat) (i : Nat) (ws : va_W) (H : Heap) (locs : List Loc), i + k = z → ws[q0]? = some (a, gRow o (nI z) sd ho bk) → ws[q1]? = some (o, gArr K.1 20 (gbF t f i)) → ws.set q1 (o, gArr K.1 20 (gbF t f z)) = wsF → va_P D vwCl (ws) H → va_D A (ws) → va_S A s.heap H locs →
    ∀ (ls : Array Slot), lv_has ls 3 [(2, .int (nI i)), (0, .ref a), (1, .int (nI t))] →
    W p l e rm s m args below meth c H locs 0 0 (MQ below (va_Qv (fun w => w = wsF) (gB D vwCl (gT K) A) A) args s 0 0 A) (F0 m 17 ls []) := by
  have I0 := I
  obtain ⟨hx, hb, hr, hml, hown, hts, hlocks, hnm, hA, hK, -, -, -⟩ := I
  have hown : s.vm.findClass RX1 = some m.cls := hown
  have hi_X1 : ∀ w ∈ u_ws RX1 TX1 5, w ∈ wsX1_giveBack := by decide +kernel
  intro k
  induction k with
  | zero =>
    intro i ws H locs hi he0 he1 hF hP hD hS ls hl
    have hiz : i = z := by omega
    subst hiz
    refine lv_iload_n hx hb dX1_giveBack_17 rfl (lv_at hl 0 rfl) ?_
    refine lv_aload_n hx hb dX1_giveBack_18 rfl (lv_at hl 1 rfl) ?_
    refine va_get (C := RX1) (T := TX1) (N := 5) (ci := 1) hx hb hts hi_X1 hown hK hP (q0) (he0) rfl 1 (by decide) (hts (.fieldLink RX1 15 "GroupSeats$Row" "size" "I") (by decide +kernel)) (fun _ h9 => h9) rfl dX1_giveBack_19 ?_
    refine lv_icmp_ge (tgt := 47) hx hb dX1_giveBack_22 (by decide) (fun c22 => ?_) (fun c22 => ?_)
    · exact g_vret hx hb hr hlocks (Nat.le_of_ble_eq_true rfl) (Nat.le_of_ble_eq_true rfl) hK hP hD hS dX1_giveBack_47 ((g_setid he1).symm.trans hF)
    · exact absurd (nI_le (by omega) (by omega)) c22
  | succ k ih =>
    intro i ws H locs hi he0 he1 hF hP hD hS ls hl
    refine lv_iload_n hx hb dX1_giveBack_17 rfl (lv_at hl 0 rfl) ?_
    refine lv_aload_n hx hb dX1_giveBack_18 rfl (lv_at hl 1 rfl) ?_
    refine va_get (C := RX1) (T := TX1) (N := 5) (ci := 1) hx hb hts hi_X1 hown hK hP (q0) (he0) rfl 1 (by decide) (hts (.fieldLink RX1 15 "GroupSeats$Row" "size" "I") (by decide +kernel)) (fun _ h9 => h9) rfl dX1_giveBack_19 ?_
    refine lv_icmp_ge (tgt := 47) hx hb dX1_giveBack_22 (by decide) (fun c22 => ?_) (fun c22 => ?_)
    · exact absurd c22 (nI_ge (by omega) (by omega))
    · refine lv_iload_n hx hb dX1_giveBack_25 rfl (lv_at hl 2 rfl) ?_
      refine lv_iconst (v := 1) hx hb dX1_giveBack_26 (by decide) ?_
      refine lv_iload_n hx hb dX1_giveBack_27 rfl (lv_at hl 0 rfl) ?_
      refine lv_ishl hx hb dX1_giveBack_28 ?_
      refine lv_iand hx hb dX1_giveBack_29 ?_
      refine lv_if_eq (tgt := 41) hx hb dX1_giveBack_30 (by decide) (fun c30 => ?_) (fun c30 => ?_)
      · refine lv_iinc (lv' := [(2, .int _), (0, .ref _), (1, .int _)]) hx hb dX1_giveBack_41 hl (k := 0) rfl rfl (by decide) rfl (fun ls hl => ?_)
        refine lv_goto (tgt := 17) hx hb dX1_giveBack_44 (by decide) ?_
        rw [bit_test ht (by omega)] at c30
        rw [g_inc] at hl
        rw [gbF_no c30] at he1
        exact ih (i + 1) _ H locs (by omega) he0 he1 hF hP hD hS ls (lv_sub hl [0, 1, 2] rfl)
      · refine lv_aload_n hx hb dX1_giveBack_33 rfl (lv_at hl 1 rfl) ?_
        refine va_get (C := RX1) (T := TX1) (N := 5) (ci := 1) hx hb hts hi_X1 hown hK hP (q0) (he0) rfl 0 (by decide) (hts (.fieldLink RX1 9 "GroupSeats$Row" "owners" "[I") (by decide +kernel)) (fun _ h9 => h9) rfl dX1_giveBack_34 ?_
        refine lv_iload_n hx hb dX1_giveBack_37 rfl (lv_at hl 0 rfl) ?_
        refine lv_bipush (v := -8) hx hb dX1_giveBack_38 (by decide) ?_
        refine va_iast hx hb hK hP hD hS (q1) 0 (he1) rfl (vp_in_nI (show i < 20 by omega) (by decide)) dX1_giveBack_40 (fun H locs hP hD hS => ?_)
        refine lv_iinc (lv' := [(2, .int _), (0, .ref _), (1, .int _)]) hx hb dX1_giveBack_41 hl (k := 0) rfl rfl (by decide) rfl (fun ls hl => ?_)
        refine lv_goto (tgt := 17) hx hb dX1_giveBack_44 (by decide) ?_
        rw [bit_test ht (by omega)] at c30
        rw [g_inc] at hl
        have c30 : t.testBit i = true := by simpa using c30
        rw [nI_clamp (by omega), gbF_yes c30] at hP hD
        exact ih (i + 1) _ H locs (by omega) (g_setne (Ne.symm hne) he0) (g_setself he1) (by rw [List.set_set]; exact hF) hP hD hS ls (lv_sub hl [0, 1, 2] rfl)
theorem gbF_t0 (f : Nat → Int32) (n : Nat) : gbF 0 f n = f := by funext j; simp [gbF]
def gbB (t : Nat) (bk : Int32) : Int32 := if t = 0 then bk else bk + 1
set_option maxHeartbeats 4000000 in
set_option maxRecDepth 100000 in
/-- Row.giveBack(t) -/
theorem c_giveBack (l : Launch) (D : va_G) (K : gCl) (ws : va_W) (a o q0 q1 z : Nat) (sd ho bk : Int32) (f : Nat → Int32) (t : Nat) (sz : Nat) (hne : q0 ≠ q1) (ht : t < 2 ^ 20) (hz : z ≤ 20) (he0 : ws[q0]? = some (a, gRow o (nI z) sd ho bk)) (he1 : ws[q1]? = some (o, gArr K.1 20 f)) : gMv l yX1_giveBack wsX1_giveBack ({ frames := 0, cells := 0, slots := 0, locals := 0 } : Room) D vwCl (gT K) [.ref a, .int (nI t)] (ws) sz (fun w => w = (ws.set q0 (a, gRow o (nI z) sd ho (gbB t bk))).set q1 (o, gArr K.1 20 (gbF t f z))) 0 0 := by
  refine g_of (cc := cX1_giveBack) (maxL := 3) (ret := none) (Qc := fun A => va_Qv (fun w => w = (ws.set q0 (a, gRow o (nI z) sd ho (gbB t bk))).set q1 (o, gArr K.1 20 (gbF t f z))) (gB D vwCl (gT K) A) A) (by decide) rfl (Nat.le_of_ble_eq_true rfl) ?_
  intro p e s m below meth c A ls I hl
  have I0 := I
  obtain ⟨hx, hb, hr, hml, hown, hts, hlocks, hnm, hA, hK, hP, hD, hS⟩ := I
  have hown : s.vm.findClass RX1 = some m.cls := hown
  have hl : lv_has ls 3 [(0, .ref a), (1, .int (nI t))] := hl
  have hi_X1 : ∀ w ∈ u_ws RX1 TX1 5, w ∈ wsX1_giveBack := by decide +kernel
  refine lv_iload_n hx hb dX1_giveBack_0 rfl (lv_at hl 1 rfl) ?_
  refine lv_if_ne (tgt := 5) hx hb dX1_giveBack_1 (by decide) (fun c1 => ?_) (fun c1 => ?_)
  · refine lv_aload_n hx hb dX1_giveBack_5 rfl (lv_at hl 0 rfl) ?_
    refine lv_dup hx hb dX1_giveBack_6 rfl ?_
    refine va_get (C := RX1) (T := TX1) (N := 5) (ci := 1) hx hb hts hi_X1 hown hK hP (q0) (he0) rfl 4 (by decide) (hts (.fieldLink RX1 23 "GroupSeats$Row" "backs" "I") (by decide +kernel)) (fun _ h9 => h9) rfl dX1_giveBack_7 ?_
    refine lv_iconst (v := 1) hx hb dX1_giveBack_10 (by decide) ?_
    refine lv_iadd hx hb dX1_giveBack_11 ?_
    refine va_put (C := RX1) (T := TX1) (N := 5) (ci := 1) (ty := .int) hx hb hts hi_X1 tyX1 tyX1_ok nmX1 hown hK hP hD hS (q0) (he0) rfl 4 (by decide) (hts (.fieldLink RX1 23 "GroupSeats$Row" "backs" "I") (by decide +kernel)) (fun _ h9 => h9) rfl (by decide +kernel) rfl rfl (Nat.le_of_ble_eq_true rfl) dX1_giveBack_12 (fun H locs hP hD hS => ?_)
    refine lv_iconst (v := 0) hx hb dX1_giveBack_15 (by decide) ?_
    refine lv_istore_n (lv' := [(2, .int _), (0, .ref _), (1, .int _)]) hx hb dX1_giveBack_16 rfl hl (by decide) rfl (fun ls hl => ?_)
    have ht0 : t ≠ 0 := fun h => c1 (by rw [h]; rfl)
    exact lp_giveBack hne hz ht I0 z 0 _ _ _ (by omega) (g_setself he0) (by rw [gbF_0]; exact g_setne hne he1) (by simp only [gbB, if_neg ht0, List.set]) hP hD hS ls (lv_sub hl [0, 1, 2] rfl)
  · exact g_vret hx hb hr hlocks (Nat.le_of_ble_eq_true rfl) (Nat.le_of_ble_eq_true rfl) hK hP hD hS dX1_giveBack_4 (by have ht0 : t = 0 := (nI_eq (by omega) (by decide)).mp c1; subst ht0; rw [gbF_t0, show gbB 0 bk = bk from rfl, g_setid he0, g_setid he1])
