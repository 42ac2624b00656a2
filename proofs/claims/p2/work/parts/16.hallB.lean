/-! THE HALL AS A VALUE: sizes, sides, owners, cancelled, bookings, those that wait, the list, the most held, failures -/
abbrev HS : Type := (Nat → Nat) × (Nat → Int32) × (Nat → Nat → Int32) × (Nat → Int32) × Nat × List Pty × List Nat × Nat × Int32
def CW (K : gCl) (h0 : Nat) (S : HS) (w : va_W) : Prop := ∃ (a : Nat → Nat → Nat) (ho bk pl pn pm : Nat → Int32) (nm : Nat → Nat → Int32) (co : Nat) (qu : Nat → Nat), a 0 0 = h0 ∧ w = hW K a S.1 S.2.1 ho bk S.2.2.1 pl pn pm nm S.2.2.2.1 co qu (nI S.2.2.2.2.1) (nI S.2.2.2.2.2.1.length) (nI S.2.2.2.2.2.2.2.1) S.2.2.2.2.2.2.2.2 ∧ PM qu co ∧ PQ pl pn pm nm qu 0 S.2.2.2.2.2.1 ∧ pl co = nI S.2.2.2.2.2.2.1.length ∧ isL (nm co) S.2.2.2.2.2.2.1
def RP (K : gCl) (h0 : Nat) (o : Int32 × HS) : Int32 → va_W → Prop := fun r w => r = o.1 ∧ CW K h0 o.2 w
abbrev inRow (x : Int32) : Prop := 0 ≤ x ∧ x < 10
def ixN (x : Int32) : Nat := x.toNatClampNeg
theorem ixN_nI {n : Nat} (h : n < 2 ^ 31) : ixN (nI n) = n := nI_clamp h
theorem inRow_nI {r : Nat} (h : r < 10) : inRow (nI r) := ⟨nI_pos' (by omega), nI_lt (b := 10) h (by decide)⟩
def cntO (z : Nat → Nat) : Nat → Nat
  | 0 => 0
  | n + 1 => cntO z n + (if z n = 0 then 0 else 1)
theorem cntO_le (z : Nat → Nat) : ∀ n, cntO z n ≤ n
  | 0 => Nat.le_refl 0
  | n + 1 => by
    have := cntO_le z n
    unfold cntO
    split <;> omega
/-! what the calls answer, and what they make of the hall -/
/-- those that wait are tried in a hall that was changed -/
def opTry (z : Nat → Nat) (sd : Nat → Int32) (ow : Nat → Nat → Int32) (cn : Nat → Int32) (B : Nat) (q : List Pty) (ls : List Nat) (mh : Nat) (fl : Int32) : Int32 × HS := (nI (q.length - (tryA z sd q B ow mh fl).1.length), (z, sd, (tryA z sd q B ow mh fl).2.2.1, cn, (tryA z sd q B ow mh fl).2.1, (tryA z sd q B ow mh fl).1, ls, (tryA z sd q B ow mh fl).2.2.2.1, (tryA z sd q B ow mh fl).2.2.2.2))
def opOpen (z : Nat → Nat) (sd : Nat → Int32) (ow : Nat → Nat → Int32) (cn : Nat → Int32) (B : Nat) (q : List Pty) (ls : List Nat) (mh : Nat) (fl : Int32) (x n : Int32) : Int32 × HS :=
  if inRow x ∧ 1 ≤ n ∧ n ≤ 20 then (if z (ixN x) = 0 then opTry (va_up z (ixN x) (ixN n)) (va_up sd (ixN x) 0) (va_up ow (ixN x) (gFill (-8) 20 (ow (ixN x)))) cn B q ls mh fl else (-2, (z, sd, ow, cn, B, q, ls, mh, fl))) else (-1, (z, sd, ow, cn, B, q, ls, mh, fl))
def opShut (z : Nat → Nat) (sd : Nat → Int32) (ow : Nat → Nat → Int32) (cn : Nat → Int32) (B : Nat) (q : List Pty) (ls : List Nat) (mh : Nat) (fl : Int32) (x : Int32) : Int32 × HS :=
  if inRow x then (if z (ixN x) ≠ 0 ∧ cntV (ow (ixN x)) (-8) (z (ixN x)) = z (ixN x) then (nI (z (ixN x)), (va_up z (ixN x) 0, sd, ow, cn, B, q, ls, mh, fl)) else (-2, (z, sd, ow, cn, B, q, ls, mh, fl))) else (-1, (z, sd, ow, cn, B, q, ls, mh, fl))
def opStrict (z : Nat → Nat) (sd : Nat → Int32) (ow : Nat → Nat → Int32) (cn : Nat → Int32) (B : Nat) (q : List Pty) (ls : List Nat) (mh : Nat) (fl : Int32) (x on : Int32) : Int32 × HS :=
  if inRow x then (if z (ixN x) = 0 then (-2, (z, sd, ow, cn, B, q, ls, mh, fl)) else (if sd (ixN x) = 0 then 0 else 1, (z, va_up sd (ixN x) on, ow, cn, B, q, ls, mh, fl))) else (-1, (z, sd, ow, cn, B, q, ls, mh, fl))
def opList (z : Nat → Nat) (sd : Nat → Int32) (ow : Nat → Nat → Int32) (cn : Nat → Int32) (B : Nat) (q : List Pty) (ls : List Nat) (mh : Nat) (fl : Int32) (x : Int32) : Int32 × HS :=
  if 0 ≤ x ∧ x ≤ 11 then (if ls.length < 6 then (nI (ls.length + 1), (z, sd, ow, cn, B, q, ls ++ [ixN x], mh, fl)) else (-3, (z, sd, ow, cn, B, q, ls, mh, fl))) else (-1, (z, sd, ow, cn, B, q, ls, mh, fl))
def opGo (z : Nat → Nat) (sd : Nat → Int32) (ow : Nat → Nat → Int32) (cn : Nat → Int32) (B : Nat) (q : List Pty) (ls : List Nat) (mh : Nat) (fl : Int32) (n : Nat) (mo : Int32) (G : Int32 × (Nat → Nat → Int32) × Nat) : Int32 × HS :=
  if G.1 = 0 then (nI B, (z, sd, G.2.1, cn, B + 1, q, [], G.2.2, fl)) else if G.1 = -4 ∧ mo = 2 ∧ q.length < 8 then (-7, (z, sd, ow, cn, B, q ++ [(n, ls)], [], G.2.2, fl + 1)) else (G.1, (z, sd, ow, cn, B, q, [], G.2.2, fl + 1))
def opBook (z : Nat → Nat) (sd : Nat → Int32) (ow : Nat → Nat → Int32) (cn : Nat → Int32) (B : Nat) (q : List Pty) (ls : List Nat) (mh : Nat) (fl : Int32) (n mo : Int32) : Int32 × HS :=
  if (1 ≤ n ∧ n ≤ 60) ∧ 0 ≤ mo ∧ mo ≤ 2 then (if ls.length = 0 then (-2, (z, sd, ow, cn, B, q, ls, mh, fl)) else if B < 40 then opGo z sd ow cn B q ls mh fl (ixN n) mo (goA z sd (nI B) (ixN n) mo ls (ixN n) 0 ow mh) else (-3, (z, sd, ow, cn, B, q, ls, mh, fl))) else (-1, (z, sd, ow, cn, B, q, ls, mh, fl))
def opCancel (z : Nat → Nat) (sd : Nat → Int32) (ow : Nat → Nat → Int32) (cn : Nat → Int32) (B : Nat) (q : List Pty) (ls : List Nat) (mh : Nat) (fl : Int32) (x : Int32) : Int32 × HS :=
  if 0 ≤ x ∧ x < nI B then (if cn (ixN x) = 0 then opTry z sd (fun i => if i < 10 then freeV (ow i) x (z i) else ow i) (upd cn (ixN x) 1) B q ls mh fl else (-2, (z, sd, ow, cn, B, q, ls, mh, fl))) else (-1, (z, sd, ow, cn, B, q, ls, mh, fl))
def opLeave (z : Nat → Nat) (sd : Nat → Int32) (ow : Nat → Nat → Int32) (cn : Nat → Int32) (B : Nat) (q : List Pty) (ls : List Nat) (mh : Nat) (fl : Int32) (x : Int32) : Int32 × HS :=
  if 0 ≤ x ∧ x < nI q.length then (nI (q.getD (ixN x) (0, [])).1, (z, sd, ow, cn, B, q.eraseIdx (ixN x), ls, mh, fl)) else (-1, (z, sd, ow, cn, B, q, ls, mh, fl))
def opSeat (z : Nat → Nat) (sd : Nat → Int32) (ow : Nat → Nat → Int32) (cn : Nat → Int32) (B : Nat) (q : List Pty) (ls : List Nat) (mh : Nat) (fl : Int32) (x i : Int32) : Int32 × HS :=
  (if inRow x ∧ 0 ≤ i then (if i < nI (z (ixN x)) then ow (ixN x) (ixN i) else -2) else -1, (z, sd, ow, cn, B, q, ls, mh, fl))
def opHas (z : Nat → Nat) (sd : Nat → Int32) (ow : Nat → Nat → Int32) (cn : Nat → Int32) (B : Nat) (q : List Pty) (ls : List Nat) (mh : Nat) (fl : Int32) (b x : Int32) : Int32 × HS :=
  (if (0 ≤ b ∧ b < nI B) ∧ inRow x then nI (cntV (ow (ixN x)) b (z (ixN x))) else -1, (z, sd, ow, cn, B, q, ls, mh, fl))
def opTold (z : Nat → Nat) (sd : Nat → Int32) (ow : Nat → Nat → Int32) (cn : Nat → Int32) (B : Nat) (q : List Pty) (ls : List Nat) (mh : Nat) (fl : Int32) (k : Int32) : Int32 × HS :=
  (if k = 0 then nI B else if k = 1 then nI q.length else if k = 2 then nI mh else if k = 3 then fl else if k = 4 then nI ls.length else if k = 5 then nI (cntO z 10) else -1, (z, sd, ow, cn, B, q, ls, mh, fl))
def opWaiting (z : Nat → Nat) (sd : Nat → Int32) (ow : Nat → Nat → Int32) (cn : Nat → Int32) (B : Nat) (q : List Pty) (ls : List Nat) (mh : Nat) (fl : Int32) (x : Int32) : Int32 × HS :=
  (if 0 ≤ x ∧ x < nI q.length then nI (q.getD (ixN x) (0, [])).1 else -8, (z, sd, ow, cn, B, q, ls, mh, fl))
theorem g_ix1 {x M : Int32} {n : Nat} (hM : M.toInt = n) (h1 : ¬ x < 1) (h2 : x ≤ M) : ∃ j : Nat, 1 ≤ j ∧ j ≤ n ∧ x = nI j := by
  simp only [Int32.le_iff_toInt_le, Int32.lt_iff_toInt_lt, gl_1] at h1 h2
  obtain ⟨j, hj, rfl⟩ := nI_of (x := x) (by rw [Int32.lt_iff_toInt_lt, gl_0]; omega)
  rw [nI_toInt hj] at h1 h2
  exact ⟨j, by omega, by omega, rfl⟩
theorem g_ixn {x : Int32} {n : Nat} (hn : n < 2 ^ 31) (h : 0 ≤ x ∧ x < nI n) : ∃ j : Nat, j < n ∧ x = nI j := g_ix (nI_toInt hn) h
theorem PR_up {pl pn pm : Nat → Int32} {nm : Nat → Nat → Int32} {c j : Nat} {P : Pty} {l' n' m' : Int32} {f' : Nat → Int32} (h : PR pl pn pm nm j P) (hj : j ≠ c) : PR (va_up pl c l') (va_up pn c n') (va_up pm c m') (va_up nm c f') j P := by
  obtain ⟨h1, h2, h3, h4, h5⟩ := h
  refine ⟨?_, ?_, ?_, ?_, h5⟩
  · rw [va_up_ne _ _ hj]; exact h1
  · rw [va_up_ne _ _ hj]; exact h2
  · rw [va_up_ne _ _ hj]; exact h3
  · rw [va_up_ne _ _ hj]; exact h4
theorem PQ_up {pl pn pm : Nat → Int32} {nm : Nat → Nat → Int32} {qu : Nat → Nat} {co : Nat} {q : List Pty} {l' n' m' : Int32} {f' : Nat → Int32} (hM : PM qu co) (hq : q.length ≤ 8) (h : PQ pl pn pm nm qu 0 q) : PQ (va_up pl co l') (va_up pn co n') (va_up pm co m') (va_up nm co f') qu 0 q := fun i P hi => by
  have hl := (List.getElem?_eq_some_iff.mp hi).1
  exact PR_up (h i P hi) (hM.2.2.2 _ (by omega))
theorem isL_push {f : Nat → Int32} {ls : List Nat} {i : Nat} (h : isL f ls) (hl : ls.length < 6) (hi : i ≤ 11) : isL (upd f ls.length (nI i)) (ls ++ [i]) := by
  obtain ⟨h1, h2, h3⟩ := h
  refine ⟨by simp; omega, fun k hk => ?_, fun r hr => ?_⟩
  · rw [List.length_append, List.length_singleton] at hk
    by_cases e : k = ls.length
    · subst e; simp [upd, List.getD_eq_getElem?_getD]
    · rw [show upd f ls.length (nI i) k = f k by simp [upd, e], h2 k (by omega)]
      simp [List.getD_eq_getElem?_getD, List.getElem?_append_left (show k < ls.length by omega)]
  · rcases List.mem_append.mp hr with q | q
    · exact h3 r q
    · rw [List.mem_singleton.mp q]; exact hi
theorem isL_nil {f : Nat → Int32} : isL f [] := ⟨by simp, fun i hi => by simp at hi, fun r hr => by simp at hr⟩
section HW2
variable {K : gCl} {a : Nat → Nat → Nat} {z : Nat → Nat} {sd ho bk : Nat → Int32} {ow : Nat → Nat → Int32} {pl pn pm : Nat → Int32} {nm : Nat → Nat → Int32} {cn : Nat → Int32} {co : Nat} {qu : Nat → Nat} {B wt mh fl : Int32}
theorem hW_setZ {i z' : Nat} (hi : i < 10) : (hW K a z sd ho bk ow pl pn pm nm cn co qu B wt mh fl).set (2 * i + 4) (a 1 i, gRow (a 2 i) (nI z') (sd i) (ho i) (bk i)) = hW K a (va_up z i z') sd ho bk ow pl pn pm nm cn co qu B wt mh fl := by
  rw [hW_setRow hi, va_up_id, va_up_id, va_up_id]
theorem hW_setSd {i : Nat} {s' : Int32} (hi : i < 10) : (hW K a z sd ho bk ow pl pn pm nm cn co qu B wt mh fl).set (2 * i + 4) (a 1 i, gRow (a 2 i) (nI (z i)) s' (ho i) (bk i)) = hW K a z (va_up sd i s') ho bk ow pl pn pm nm cn co qu B wt mh fl := by
  rw [hW_setRow hi, va_up_id, va_up_id, va_up_id]
end HW2
set_option maxHeartbeats 4000000 in
set_option maxRecDepth 100000 in
theorem h_strict (l : Launch) (D : va_G) (K : gCl) (a : Nat → Nat → Nat) (z : Nat → Nat) (sd ho bk : Nat → Int32) (ow : Nat → Nat → Int32) (pl pn pm : Nat → Int32) (nm : Nat → Nat → Int32) (cn : Nat → Int32) (co : Nat) (qu : Nat → Nat) (B mh : Nat) (fl : Int32) (q : List Pty) (li : List Nat) (x on : Int32) (sz : Nat) (hz : ∀ i, i < 10 → z i ≤ 20) (hB40 : B ≤ 40) (hq8 : q.length ≤ 8) (hmh6 : mh ≤ 6) (hM : PM qu co) (hPs : PQ pl pn pm nm qu 0 q) (hlc : pl co = nI li.length) (hLc : isL (nm co) li) (hon : on = 0 ∨ on = 1) : gMi l yX2_strict wsX2_strict ({ frames := 14, cells := 0, slots := 0, locals := 420 } : Room) D vwCl (gT K) [.ref (a 0 0), .int x, .int on] (hW K a z sd ho bk ow pl pn pm nm cn co qu (nI B) (nI q.length) (nI mh) fl) sz (RP K (a 0 0) (opStrict z sd ow cn B q li mh fl x on)) 0 0 := by
  refine g_of (cc := cX2_strict) (maxL := 4) (ret := (some .int)) (Qc := fun A => va_Qi (RP K (a 0 0) (opStrict z sd ow cn B q li mh fl x on)) (gB D vwCl (gT K) A) A) (by decide) rfl (Nat.le_of_ble_eq_true rfl) ?_
  intro p e s m below meth c A ls I hl
  have I0 := I
  obtain ⟨hx, hb, hr, hml, hown, hts, hlocks, hnm, hA, hK, hP, hD, hS⟩ := I
  have hown : s.vm.findClass RX2 = some m.cls := hown
  have hl : lv_has ls 4 [(0, .ref (a 0 0)), (1, .int x), (2, .int on)] := hl
  have hi_X2 : ∀ w ∈ u_ws RX2 TX2 8, w ∈ wsX2_strict := by decide +kernel
  have hi_X1 : ∀ w ∈ u_ws RX1 TX1 5, w ∈ wsX2_strict := by decide +kernel
  have hco := hM.2.1
  refine lv_iload_n hx hb dX2_strict_0 rfl (lv_at hl 1 rfl) ?_
  refine g_calli (va_runS (As := [.int _]) (rest := []) ⟨hx, hb, hml, hown, hts⟩ (c_isRow l D K _ _ _) (va_cwS 1 hts gX2_strict_X2_isRow rfl rfl rfl (by decide +kernel) ⟨(Nat.le_of_ble_eq_true rfl), (Nat.le_of_ble_eq_true rfl)⟩) (g_preS hK hP hD) rfl rfl hl.1 rfl (lv_room (Nat.le_of_ble_eq_true rfl)) dX2_strict_1 ⟨Nat.zero_le _, Nat.zero_le _⟩) hD hS hA (fun r1 wv H locs hw hP hD hS => ?_)
  obtain ⟨ew, e1⟩ := hw
  rw [ew] at hP hD
  refine lv_if_ne (tgt := 9) hx hb dX2_strict_4 (by decide) (fun c4 => ?_) (fun c4 => ?_)
  · simp only [e1, Classical.not_not] at c4
    obtain ⟨r, hr10, rfl⟩ := g_ix (n := 10) rfl c4
    have hrz := hz r hr10
    have hxr : ixN (nI r) = r := ixN_nI (by omega)
    refine lv_aload_n hx hb dX2_strict_9 rfl (lv_at hl 0 rfl) ?_
    refine va_get (C := RX2) (T := TX2) (N := 8) (ci := 2) hx hb hts hi_X2 hown hK hP (0) (rfl) rfl 0 (by decide) (hts (.fieldLink RX2 11 "GroupSeats" "rows" "[LGroupSeats$Row;") (by decide +kernel)) (fun _ h9 => h9) rfl dX2_strict_10 ?_
    refine lv_iload_n hx hb dX2_strict_13 rfl (lv_at hl 1 rfl) ?_
    refine g_aldq hx hb hK hP (1) 2 (rfl) rfl (vp_in_nI hr10 (by decide)) (gRf_at hr10 (by decide)) dX2_strict_14 ?_
    refine g_calli (va_runV (As := []) (rest := []) ⟨hx, hb, hml, hown, hts⟩ (c_isOpen l D K _ (a 1 r) (a 2 r) (2 * r + 4) (nI (z r)) (sd r) (ho r) (bk r) _ (hW_row hr10)) (cwV 0 hts gX2_strict_X1_isOpen rfl rfl rfl (by decide +kernel) ⟨(Nat.le_of_ble_eq_true rfl), (Nat.le_of_ble_eq_true rfl)⟩) (g_preV hK hP hD (ci := 1) (q0 := 2 * r + 4) rfl (hW_row hr10)) rfl rfl hl.1 rfl (lv_room (Nat.le_of_ble_eq_true rfl)) dX2_strict_15 ⟨Nat.zero_le _, Nat.zero_le _⟩) hD hS hA (fun r15 wv H locs hw hP hD hS => ?_)
    obtain ⟨ew, e15⟩ := hw
    rw [ew] at hP hD
    refine lv_if_ne (tgt := 24) hx hb dX2_strict_18 (by decide) (fun c18 => ?_) (fun c18 => ?_)
    · have hzr : z r ≠ 0 := fun h0 => c18 (e15.mpr (by rw [h0]; decide))
      refine lv_aload_n hx hb dX2_strict_24 rfl (lv_at hl 0 rfl) ?_
      refine va_get (C := RX2) (T := TX2) (N := 8) (ci := 2) hx hb hts hi_X2 hown hK hP (0) (rfl) rfl 0 (by decide) (hts (.fieldLink RX2 11 "GroupSeats" "rows" "[LGroupSeats$Row;") (by decide +kernel)) (fun _ h9 => h9) rfl dX2_strict_25 ?_
      refine lv_iload_n hx hb dX2_strict_28 rfl (lv_at hl 1 rfl) ?_
      refine g_aldq hx hb hK hP (1) 2 (rfl) rfl (vp_in_nI hr10 (by decide)) (gRf_at hr10 (by decide)) dX2_strict_29 ?_
      refine va_get (C := RX1) (T := TX1) (N := 5) (ci := 1) hx hb hts hi_X1 hown hK hP (2 * r + 4) (hW_row hr10) rfl 2 (by decide) (hts (.fieldLink RX2 55 "GroupSeats$Row" "sideBySide" "Z") (by decide +kernel)) (fun _ h9 => h9) rfl dX2_strict_30 ?_
      refine lv_istore_n (lv' := [(3, .int _), (0, .ref _), (1, .int _), (2, .int _)]) hx hb dX2_strict_33 rfl hl (by decide) rfl (fun ls hl => ?_)
      refine lv_aload_n hx hb dX2_strict_34 rfl (lv_at hl 1 rfl) ?_
      refine va_get (C := RX2) (T := TX2) (N := 8) (ci := 2) hx hb hts hi_X2 hown hK hP (0) (rfl) rfl 0 (by decide) (hts (.fieldLink RX2 11 "GroupSeats" "rows" "[LGroupSeats$Row;") (by decide +kernel)) (fun _ h9 => h9) rfl dX2_strict_35 ?_
      refine lv_iload_n hx hb dX2_strict_38 rfl (lv_at hl 2 rfl) ?_
      refine g_aldq hx hb hK hP (1) 2 (rfl) rfl (vp_in_nI hr10 (by decide)) (gRf_at hr10 (by decide)) dX2_strict_39 ?_
      refine lv_iload_n hx hb dX2_strict_40 rfl (lv_at hl 3 rfl) ?_
      refine va_put (C := RX1) (T := TX1) (N := 5) (ci := 1) (ty := .boolean) hx hb hts hi_X1 tyX1 tyX1_ok nmX1 hown hK hP hD hS (2 * r + 4) (hW_row hr10) rfl 2 (by decide) (hts (.fieldLink RX2 55 "GroupSeats$Row" "sideBySide" "Z") (by decide +kernel)) (fun _ h9 => h9) rfl (by decide +kernel) (by rcases hon with rfl | rfl <;> rfl) (by rcases hon with rfl | rfl <;> rfl) (Nat.le_of_ble_eq_true rfl) dX2_strict_41 (fun H locs hP hD hS => ?_)
      have hP : va_P D vwCl ((hW K a z sd ho bk ow pl pn pm nm cn co qu (nI B) (nI q.length) (nI mh) fl).set (2 * r + 4) (a 1 r, gRow (a 2 r) (nI (z r)) on (ho r) (bk r))) H := hP
      have hD : va_D A ((hW K a z sd ho bk ow pl pn pm nm cn co qu (nI B) (nI q.length) (nI mh) fl).set (2 * r + 4) (a 1 r, gRow (a 2 r) (nI (z r)) on (ho r) (bk r))) := hD
      rw [hW_setSd hr10] at hP hD
      refine lv_iload_n hx hb dX2_strict_44 rfl (lv_at hl 0 rfl) ?_
      refine lv_if_eq (tgt := 52) hx hb dX2_strict_45 (by decide) (fun c45 => ?_) (fun c45 => ?_)
      · refine lv_iconst (v := 0) hx hb dX2_strict_52 (by decide) ?_
        exact g_iret hx hb hr hlocks (Nat.le_of_ble_eq_true rfl) (Nat.le_of_ble_eq_true rfl) hK hP hD hS dX2_strict_53 (by unfold opStrict; rw [if_pos (inRow_nI hr10), hxr, if_neg hzr, if_pos c45]; exact ⟨rfl, ⟨a, ho, bk, pl, pn, pm, nm, co, qu, rfl, rfl, hM, hPs, hlc, hLc⟩⟩)
      · refine lv_iconst (v := 1) hx hb dX2_strict_48 (by decide) ?_
        refine lv_goto (tgt := 53) hx hb dX2_strict_49 (by decide) ?_
        exact g_iret hx hb hr hlocks (Nat.le_of_ble_eq_true rfl) (Nat.le_of_ble_eq_true rfl) hK hP hD hS dX2_strict_53 (by unfold opStrict; rw [if_pos (inRow_nI hr10), hxr, if_neg hzr, if_neg c45]; exact ⟨rfl, ⟨a, ho, bk, pl, pn, pm, nm, co, qu, rfl, rfl, hM, hPs, hlc, hLc⟩⟩)
    · have hzr : z r = 0 := Classical.not_not.mp (fun h0 => (e15.mp c18) (by rw [show (0 : Int32) = nI 0 from rfl]; exact nI_lt (by omega) (by omega)))
      refine lv_bipush (v := -2) hx hb dX2_strict_21 (by decide) ?_
      exact g_iret hx hb hr hlocks (Nat.le_of_ble_eq_true rfl) (Nat.le_of_ble_eq_true rfl) hK hP hD hS dX2_strict_23 (by unfold opStrict; rw [if_pos (inRow_nI hr10), hxr, if_pos hzr]; exact ⟨rfl, ⟨a, ho, bk, pl, pn, pm, nm, co, qu, rfl, rfl, hM, hPs, hlc, hLc⟩⟩)
  · simp only [e1, Classical.not_not] at c4
    refine lv_iconst (v := -1) hx hb dX2_strict_7 (by decide) ?_
    exact g_iret hx hb hr hlocks (Nat.le_of_ble_eq_true rfl) (Nat.le_of_ble_eq_true rfl) hK hP hD hS dX2_strict_8 (by unfold opStrict; rw [if_neg (fun h => by simp only [inRow, Int32.le_iff_toInt_le, Int32.lt_iff_toInt_lt, gl_m1, gl_0, gl_1, gl_2, gl_3, gl_5, gl_6, gl_8, gl_9, gl_10, gl_11, gl_20, gl_40, gl_60] at h c4; omega)]; exact ⟨rfl, ⟨a, ho, bk, pl, pn, pm, nm, co, qu, rfl, rfl, hM, hPs, hlc, hLc⟩⟩)
set_option maxHeartbeats 4000000 in
set_option maxRecDepth 100000 in
theorem h_seat (l : Launch) (D : va_G) (K : gCl) (a : Nat → Nat → Nat) (z : Nat → Nat) (sd ho bk : Nat → Int32) (ow : Nat → Nat → Int32) (pl pn pm : Nat → Int32) (nm : Nat → Nat → Int32) (cn : Nat → Int32) (co : Nat) (qu : Nat → Nat) (B mh : Nat) (fl : Int32) (q : List Pty) (li : List Nat) (x i : Int32) (sz : Nat) (hz : ∀ i, i < 10 → z i ≤ 20) (hB40 : B ≤ 40) (hq8 : q.length ≤ 8) (hmh6 : mh ≤ 6) (hM : PM qu co) (hPs : PQ pl pn pm nm qu 0 q) (hlc : pl co = nI li.length) (hLc : isL (nm co) li) : gMi l yX2_seat wsX2_seat ({ frames := 14, cells := 0, slots := 0, locals := 420 } : Room) D vwCl (gT K) [.ref (a 0 0), .int x, .int i] (hW K a z sd ho bk ow pl pn pm nm cn co qu (nI B) (nI q.length) (nI mh) fl) sz (RP K (a 0 0) (opSeat z sd ow cn B q li mh fl x i)) 0 0 := by
  refine g_of (cc := cX2_seat) (maxL := 3) (ret := (some .int)) (Qc := fun A => va_Qi (RP K (a 0 0) (opSeat z sd ow cn B q li mh fl x i)) (gB D vwCl (gT K) A) A) (by decide) rfl (Nat.le_of_ble_eq_true rfl) ?_
  intro p e s m below meth c A ls I hl
  have I0 := I
  obtain ⟨hx, hb, hr, hml, hown, hts, hlocks, hnm, hA, hK, hP, hD, hS⟩ := I
  have hown : s.vm.findClass RX2 = some m.cls := hown
  have hl : lv_has ls 3 [(0, .ref (a 0 0)), (1, .int x), (2, .int i)] := hl
  have hi_X2 : ∀ w ∈ u_ws RX2 TX2 8, w ∈ wsX2_seat := by decide +kernel
  have hi_X1 : ∀ w ∈ u_ws RX1 TX1 5, w ∈ wsX2_seat := by decide +kernel
  refine lv_iload_n hx hb dX2_seat_0 rfl (lv_at hl 1 rfl) ?_
  refine g_calli (va_runS (As := [.int _]) (rest := []) ⟨hx, hb, hml, hown, hts⟩ (c_isRow l D K _ _ _) (va_cwS 1 hts gX2_seat_X2_isRow rfl rfl rfl (by decide +kernel) ⟨(Nat.le_of_ble_eq_true rfl), (Nat.le_of_ble_eq_true rfl)⟩) (g_preS hK hP hD) rfl rfl hl.1 rfl (lv_room (Nat.le_of_ble_eq_true rfl)) dX2_seat_1 ⟨Nat.zero_le _, Nat.zero_le _⟩) hD hS hA (fun r1 wv H locs hw hP hD hS => ?_)
  obtain ⟨ew, e1⟩ := hw
  rw [ew] at hP hD
  refine lv_if_eq (tgt := 11) hx hb dX2_seat_4 (by decide) (fun c4 => ?_) (fun c4 => ?_)
  · simp only [e1, Classical.not_not] at c4
    refine lv_iconst (v := -1) hx hb dX2_seat_11 (by decide) ?_
    exact g_iret hx hb hr hlocks (Nat.le_of_ble_eq_true rfl) (Nat.le_of_ble_eq_true rfl) hK hP hD hS dX2_seat_12 (by unfold opSeat; rw [if_neg (fun h => by simp only [inRow, Int32.le_iff_toInt_le, Int32.lt_iff_toInt_lt, gl_m1, gl_0, gl_1, gl_2, gl_3, gl_5, gl_6, gl_8, gl_9, gl_10, gl_11, gl_20, gl_40, gl_60] at h c4; omega)]; exact ⟨rfl, ⟨a, ho, bk, pl, pn, pm, nm, co, qu, rfl, rfl, hM, hPs, hlc, hLc⟩⟩)
  · simp only [e1, Classical.not_not] at c4
    refine lv_iload_n hx hb dX2_seat_7 rfl (lv_at hl 2 rfl) ?_
    refine lv_if_ge (tgt := 13) hx hb dX2_seat_8 (by decide) (fun c8 => ?_) (fun c8 => ?_)
    · obtain ⟨r, hr10, rfl⟩ := g_ix (n := 10) rfl c4
      have hrz := hz r hr10
      have hxr : ixN (nI r) = r := ixN_nI (by omega)
      refine lv_iload_n hx hb dX2_seat_13 rfl (lv_at hl 2 rfl) ?_
      refine lv_aload_n hx hb dX2_seat_14 rfl (lv_at hl 0 rfl) ?_
      refine va_get (C := RX2) (T := TX2) (N := 8) (ci := 2) hx hb hts hi_X2 hown hK hP (0) (rfl) rfl 0 (by decide) (hts (.fieldLink RX2 11 "GroupSeats" "rows" "[LGroupSeats$Row;") (by decide +kernel)) (fun _ h9 => h9) rfl dX2_seat_15 ?_
      refine lv_iload_n hx hb dX2_seat_18 rfl (lv_at hl 1 rfl) ?_
      refine g_aldq hx hb hK hP (1) 2 (rfl) rfl (vp_in_nI hr10 (by decide)) (gRf_at hr10 (by decide)) dX2_seat_19 ?_
      refine va_get (C := RX1) (T := TX1) (N := 5) (ci := 1) hx hb hts hi_X1 hown hK hP (2 * r + 4) (hW_row hr10) rfl 1 (by decide) (hts (.fieldLink RX2 51 "GroupSeats$Row" "size" "I") (by decide +kernel)) (fun _ h9 => h9) rfl dX2_seat_20 ?_
      refine lv_icmp_lt (tgt := 29) hx hb dX2_seat_23 (by decide) (fun c23 => ?_) (fun c23 => ?_)
      · obtain ⟨i1, hi1, rfl⟩ := g_ixn (n := z r) (by omega) ⟨c8, c23⟩
        refine lv_aload_n hx hb dX2_seat_29 rfl (lv_at hl 0 rfl) ?_
        refine va_get (C := RX2) (T := TX2) (N := 8) (ci := 2) hx hb hts hi_X2 hown hK hP (0) (rfl) rfl 0 (by decide) (hts (.fieldLink RX2 11 "GroupSeats" "rows" "[LGroupSeats$Row;") (by decide +kernel)) (fun _ h9 => h9) rfl dX2_seat_30 ?_
        refine lv_iload_n hx hb dX2_seat_33 rfl (lv_at hl 1 rfl) ?_
        refine g_aldq hx hb hK hP (1) 2 (rfl) rfl (vp_in_nI hr10 (by decide)) (gRf_at hr10 (by decide)) dX2_seat_34 ?_
        refine va_get (C := RX1) (T := TX1) (N := 5) (ci := 1) hx hb hts hi_X1 hown hK hP (2 * r + 4) (hW_row hr10) rfl 0 (by decide) (hts (.fieldLink RX2 92 "GroupSeats$Row" "owners" "[I") (by decide +kernel)) (fun _ h9 => h9) rfl dX2_seat_35 ?_
        refine lv_iload_n hx hb dX2_seat_38 rfl (lv_at hl 2 rfl) ?_
        refine va_iald hx hb hK hP (2 * r + 1 + 4) 0 (hW_own hr10) rfl (vp_in_nI (show i1 < 20 by omega) (by decide)) dX2_seat_39 ?_
        exact g_iret hx hb hr hlocks (Nat.le_of_ble_eq_true rfl) (Nat.le_of_ble_eq_true rfl) hK hP hD hS dX2_seat_40 (by unfold opSeat; rw [if_pos ⟨inRow_nI hr10, c8⟩, hxr, if_pos c23]; exact ⟨rfl, ⟨a, ho, bk, pl, pn, pm, nm, co, qu, rfl, rfl, hM, hPs, hlc, hLc⟩⟩)
      · refine lv_bipush (v := -2) hx hb dX2_seat_26 (by decide) ?_
        exact g_iret hx hb hr hlocks (Nat.le_of_ble_eq_true rfl) (Nat.le_of_ble_eq_true rfl) hK hP hD hS dX2_seat_28 (by unfold opSeat; rw [if_pos ⟨inRow_nI hr10, c8⟩, hxr, if_neg c23]; exact ⟨rfl, ⟨a, ho, bk, pl, pn, pm, nm, co, qu, rfl, rfl, hM, hPs, hlc, hLc⟩⟩)
    · refine lv_iconst (v := -1) hx hb dX2_seat_11 (by decide) ?_
      exact g_iret hx hb hr hlocks (Nat.le_of_ble_eq_true rfl) (Nat.le_of_ble_eq_true rfl) hK hP hD hS dX2_seat_12 (by unfold opSeat; rw [if_neg (fun h => by simp only [inRow, Int32.le_iff_toInt_le, Int32.lt_iff_toInt_lt, gl_m1, gl_0, gl_1, gl_2, gl_3, gl_5, gl_6, gl_8, gl_9, gl_10, gl_11, gl_20, gl_40, gl_60] at h c4 c8; omega)]; exact ⟨rfl, ⟨a, ho, bk, pl, pn, pm, nm, co, qu, rfl, rfl, hM, hPs, hlc, hLc⟩⟩)
set_option maxHeartbeats 4000000 in
set_option maxRecDepth 100000 in
theorem h_shut (l : Launch) (D : va_G) (K : gCl) (a : Nat → Nat → Nat) (z : Nat → Nat) (sd ho bk : Nat → Int32) (ow : Nat → Nat → Int32) (pl pn pm : Nat → Int32) (nm : Nat → Nat → Int32) (cn : Nat → Int32) (co : Nat) (qu : Nat → Nat) (B mh : Nat) (fl : Int32) (q : List Pty) (li : List Nat) (x : Int32) (sz : Nat) (hz : ∀ i, i < 10 → z i ≤ 20) (hB40 : B ≤ 40) (hq8 : q.length ≤ 8) (hmh6 : mh ≤ 6) (hM : PM qu co) (hPs : PQ pl pn pm nm qu 0 q) (hlc : pl co = nI li.length) (hLc : isL (nm co) li) : gMi l yX2_shut wsX2_shut ({ frames := 14, cells := 0, slots := 0, locals := 420 } : Room) D vwCl (gT K) [.ref (a 0 0), .int x] (hW K a z sd ho bk ow pl pn pm nm cn co qu (nI B) (nI q.length) (nI mh) fl) sz (RP K (a 0 0) (opShut z sd ow cn B q li mh fl x)) 0 0 := by
  refine g_of (cc := cX2_shut) (maxL := 4) (ret := (some .int)) (Qc := fun A => va_Qi (RP K (a 0 0) (opShut z sd ow cn B q li mh fl x)) (gB D vwCl (gT K) A) A) (by decide) rfl (Nat.le_of_ble_eq_true rfl) ?_
  intro p e s m below meth c A ls I hl
  have I0 := I
  obtain ⟨hx, hb, hr, hml, hown, hts, hlocks, hnm, hA, hK, hP, hD, hS⟩ := I
  have hown : s.vm.findClass RX2 = some m.cls := hown
  have hl : lv_has ls 4 [(0, .ref (a 0 0)), (1, .int x)] := hl
  have hi_X2 : ∀ w ∈ u_ws RX2 TX2 8, w ∈ wsX2_shut := by decide +kernel
  have hi_X1 : ∀ w ∈ u_ws RX1 TX1 5, w ∈ wsX2_shut := by decide +kernel
  have hco := hM.2.1
  refine lv_iload_n hx hb dX2_shut_0 rfl (lv_at hl 1 rfl) ?_
  refine g_calli (va_runS (As := [.int _]) (rest := []) ⟨hx, hb, hml, hown, hts⟩ (c_isRow l D K _ _ _) (va_cwS 1 hts gX2_shut_X2_isRow rfl rfl rfl (by decide +kernel) ⟨(Nat.le_of_ble_eq_true rfl), (Nat.le_of_ble_eq_true rfl)⟩) (g_preS hK hP hD) rfl rfl hl.1 rfl (lv_room (Nat.le_of_ble_eq_true rfl)) dX2_shut_1 ⟨Nat.zero_le _, Nat.zero_le _⟩) hD hS hA (fun r1 wv H locs hw hP hD hS => ?_)
  obtain ⟨ew, e1⟩ := hw
  rw [ew] at hP hD
  refine lv_if_ne (tgt := 9) hx hb dX2_shut_4 (by decide) (fun c4 => ?_) (fun c4 => ?_)
  · simp only [e1, Classical.not_not] at c4
    obtain ⟨r, hr10, rfl⟩ := g_ix (n := 10) rfl c4
    have hrz := hz r hr10
    have hxr : ixN (nI r) = r := ixN_nI (by omega)
    refine lv_aload_n hx hb dX2_shut_9 rfl (lv_at hl 0 rfl) ?_
    refine va_get (C := RX2) (T := TX2) (N := 8) (ci := 2) hx hb hts hi_X2 hown hK hP (0) (rfl) rfl 0 (by decide) (hts (.fieldLink RX2 11 "GroupSeats" "rows" "[LGroupSeats$Row;") (by decide +kernel)) (fun _ h9 => h9) rfl dX2_shut_10 ?_
    refine lv_iload_n hx hb dX2_shut_13 rfl (lv_at hl 1 rfl) ?_
    refine g_aldq hx hb hK hP (1) 2 (rfl) rfl (vp_in_nI hr10 (by decide)) (gRf_at hr10 (by decide)) dX2_shut_14 ?_
    refine lv_astore_n (lv' := [(2, .ref _), (0, .ref _), (1, .int _)]) hx hb dX2_shut_15 rfl hl (by decide) rfl (fun ls hl => ?_)
    refine lv_aload_n hx hb dX2_shut_16 rfl (lv_at hl 0 rfl) ?_
    refine g_calli (va_runV (As := []) (rest := []) ⟨hx, hb, hml, hown, hts⟩ (c_isOpen l D K _ (a 1 r) (a 2 r) (2 * r + 4) (nI (z r)) (sd r) (ho r) (bk r) _ (hW_row hr10)) (cwV 0 hts gX2_shut_X1_isOpen rfl rfl rfl (by decide +kernel) ⟨(Nat.le_of_ble_eq_true rfl), (Nat.le_of_ble_eq_true rfl)⟩) (g_preV hK hP hD (ci := 1) (q0 := 2 * r + 4) rfl (hW_row hr10)) rfl rfl hl.1 rfl (lv_room (Nat.le_of_ble_eq_true rfl)) dX2_shut_17 ⟨Nat.zero_le _, Nat.zero_le _⟩) hD hS hA (fun r17 wv H locs hw hP hD hS => ?_)
    obtain ⟨ew, e17⟩ := hw
    rw [ew] at hP hD
    refine lv_if_eq (tgt := 36) hx hb dX2_shut_20 (by decide) (fun c20 => ?_) (fun c20 => ?_)
    · have hzr : z r = 0 := Classical.not_not.mp (fun h0 => (e17.mp c20) (by rw [show (0 : Int32) = nI 0 from rfl]; exact nI_lt (by omega) (by omega)))
      refine lv_bipush (v := -2) hx hb dX2_shut_36 (by decide) ?_
      exact g_iret hx hb hr hlocks (Nat.le_of_ble_eq_true rfl) (Nat.le_of_ble_eq_true rfl) hK hP hD hS dX2_shut_38 (by unfold opShut; rw [if_pos (inRow_nI hr10), hxr, if_neg (fun h => h.1 hzr)]; exact ⟨rfl, ⟨a, ho, bk, pl, pn, pm, nm, co, qu, rfl, rfl, hM, hPs, hlc, hLc⟩⟩)
    · have hzr : z r ≠ 0 := fun h0 => c20 (e17.mpr (by rw [h0]; decide))
      refine lv_aload_n hx hb dX2_shut_23 rfl (lv_at hl 0 rfl) ?_
      refine lv_bipush (v := -8) hx hb dX2_shut_24 (by decide) ?_
      refine g_calli (va_runV (As := [.int _]) (rest := []) ⟨hx, hb, hml, hown, hts⟩ (c_seatsOf l D K _ (a 1 r) (a 2 r) (2 * r + 4) (2 * r + 1 + 4) (z r) (sd r) (ho r) (bk r) (ow r) _ _ (hz r hr10) (hW_row hr10) (hW_own hr10)) (cwV 1 hts gX2_shut_X1_seatsOf rfl rfl rfl (by decide +kernel) ⟨(Nat.le_of_ble_eq_true rfl), (Nat.le_of_ble_eq_true rfl)⟩) (g_preV hK hP hD (ci := 1) (q0 := 2 * r + 4) rfl (hW_row hr10)) rfl rfl hl.1 rfl (lv_room (Nat.le_of_ble_eq_true rfl)) dX2_shut_26 ⟨Nat.zero_le _, Nat.zero_le _⟩) hD hS hA (fun r26 wv H locs hw hP hD hS => ?_)
      obtain ⟨ew, er⟩ := hw
      rw [ew] at hP hD
      subst er
      refine lv_aload_n hx hb dX2_shut_29 rfl (lv_at hl 0 rfl) ?_
      refine va_get (C := RX1) (T := TX1) (N := 5) (ci := 1) hx hb hts hi_X1 hown hK hP (2 * r + 4) (hW_row hr10) rfl 1 (by decide) (hts (.fieldLink RX2 51 "GroupSeats$Row" "size" "I") (by decide +kernel)) (fun _ h9 => h9) rfl dX2_shut_30 ?_
      refine lv_icmp_ge (tgt := 39) hx hb dX2_shut_33 (by decide) (fun c33 => ?_) (fun c33 => ?_)
      · refine lv_aload_n hx hb dX2_shut_39 rfl (lv_at hl 0 rfl) ?_
        refine va_get (C := RX1) (T := TX1) (N := 5) (ci := 1) hx hb hts hi_X1 hown hK hP (2 * r + 4) (hW_row hr10) rfl 1 (by decide) (hts (.fieldLink RX2 51 "GroupSeats$Row" "size" "I") (by decide +kernel)) (fun _ h9 => h9) rfl dX2_shut_40 ?_
        refine lv_istore_n (lv' := [(3, .int _), (2, .ref _), (0, .ref _), (1, .int _)]) hx hb dX2_shut_43 rfl hl (by decide) rfl (fun ls hl => ?_)
        refine lv_aload_n hx hb dX2_shut_44 rfl (lv_at hl 1 rfl) ?_
        refine lv_iconst (v := 0) hx hb dX2_shut_45 (by decide) ?_
        refine va_put (C := RX1) (T := TX1) (N := 5) (ci := 1) (ty := .int) hx hb hts hi_X1 tyX1 tyX1_ok nmX1 hown hK hP hD hS (2 * r + 4) (hW_row hr10) rfl 1 (by decide) (hts (.fieldLink RX2 51 "GroupSeats$Row" "size" "I") (by decide +kernel)) (fun _ h9 => h9) rfl (by decide +kernel) rfl rfl (Nat.le_of_ble_eq_true rfl) dX2_shut_46 (fun H locs hP hD hS => ?_)
        have hP : va_P D vwCl ((hW K a z sd ho bk ow pl pn pm nm cn co qu (nI B) (nI q.length) (nI mh) fl).set (2 * r + 4) (a 1 r, gRow (a 2 r) (nI 0) (sd r) (ho r) (bk r))) H := hP
        have hD : va_D A ((hW K a z sd ho bk ow pl pn pm nm cn co qu (nI B) (nI q.length) (nI mh) fl).set (2 * r + 4) (a 1 r, gRow (a 2 r) (nI 0) (sd r) (ho r) (bk r))) := hD
        rw [hW_setZ hr10] at hP hD
        refine lv_iload_n hx hb dX2_shut_49 rfl (lv_at hl 0 rfl) ?_
        exact g_iret hx hb hr hlocks (Nat.le_of_ble_eq_true rfl) (Nat.le_of_ble_eq_true rfl) hK hP hD hS dX2_shut_50 (by have hcl := cntV_le (ow r) (-8) (z r); have hc2 := (nI_leI (by omega) (by omega)).mp c33; unfold opShut; rw [if_pos (inRow_nI hr10), hxr, if_pos ⟨hzr, by omega⟩]; exact ⟨rfl, ⟨a, ho, bk, pl, pn, pm, nm, co, qu, rfl, rfl, hM, hPs, hlc, hLc⟩⟩)
      · refine lv_bipush (v := -2) hx hb dX2_shut_36 (by decide) ?_
        exact g_iret hx hb hr hlocks (Nat.le_of_ble_eq_true rfl) (Nat.le_of_ble_eq_true rfl) hK hP hD hS dX2_shut_38 (by unfold opShut; rw [if_pos (inRow_nI hr10), hxr, if_neg (fun h => c33 (by rw [h.2]; exact nI_le (Nat.le_refl _) (by omega)))]; exact ⟨rfl, ⟨a, ho, bk, pl, pn, pm, nm, co, qu, rfl, rfl, hM, hPs, hlc, hLc⟩⟩)
  · simp only [e1, Classical.not_not] at c4
    refine lv_iconst (v := -1) hx hb dX2_shut_7 (by decide) ?_
    exact g_iret hx hb hr hlocks (Nat.le_of_ble_eq_true rfl) (Nat.le_of_ble_eq_true rfl) hK hP hD hS dX2_shut_8 (by unfold opShut; rw [if_neg (fun h => by simp only [inRow, Int32.le_iff_toInt_le, Int32.lt_iff_toInt_lt, gl_m1, gl_0, gl_1, gl_2, gl_3, gl_5, gl_6, gl_8, gl_9, gl_10, gl_11, gl_20, gl_40, gl_60] at h c4; omega)]; exact ⟨rfl, ⟨a, ho, bk, pl, pn, pm, nm, co, qu, rfl, rfl, hM, hPs, hlc, hLc⟩⟩)
set_option maxHeartbeats 4000000 in
set_option maxRecDepth 100000 in
theorem h_has (l : Launch) (D : va_G) (K : gCl) (a : Nat → Nat → Nat) (z : Nat → Nat) (sd ho bk : Nat → Int32) (ow : Nat → Nat → Int32) (pl pn pm : Nat → Int32) (nm : Nat → Nat → Int32) (cn : Nat → Int32) (co : Nat) (qu : Nat → Nat) (B mh : Nat) (fl : Int32) (q : List Pty) (li : List Nat) (b x : Int32) (sz : Nat) (hz : ∀ i, i < 10 → z i ≤ 20) (hB40 : B ≤ 40) (hq8 : q.length ≤ 8) (hmh6 : mh ≤ 6) (hM : PM qu co) (hPs : PQ pl pn pm nm qu 0 q) (hlc : pl co = nI li.length) (hLc : isL (nm co) li) : gMi l yX2_has wsX2_has ({ frames := 14, cells := 0, slots := 0, locals := 420 } : Room) D vwCl (gT K) [.ref (a 0 0), .int b, .int x] (hW K a z sd ho bk ow pl pn pm nm cn co qu (nI B) (nI q.length) (nI mh) fl) sz (RP K (a 0 0) (opHas z sd ow cn B q li mh fl b x)) 0 0 := by
  refine g_of (cc := cX2_has) (maxL := 3) (ret := (some .int)) (Qc := fun A => va_Qi (RP K (a 0 0) (opHas z sd ow cn B q li mh fl b x)) (gB D vwCl (gT K) A) A) (by decide) rfl (Nat.le_of_ble_eq_true rfl) ?_
  intro p e s m below meth c A ls I hl
  have I0 := I
  obtain ⟨hx, hb, hr, hml, hown, hts, hlocks, hnm, hA, hK, hP, hD, hS⟩ := I
  have hown : s.vm.findClass RX2 = some m.cls := hown
  have hl : lv_has ls 3 [(0, .ref (a 0 0)), (1, .int b), (2, .int x)] := hl
  have hi_X2 : ∀ w ∈ u_ws RX2 TX2 8, w ∈ wsX2_has := by decide +kernel
  have hi_X1 : ∀ w ∈ u_ws RX1 TX1 5, w ∈ wsX2_has := by decide +kernel
  have hco := hM.2.1
  refine lv_aload_n hx hb dX2_has_0 rfl (lv_at hl 0 rfl) ?_
  refine lv_iload_n hx hb dX2_has_1 rfl (lv_at hl 1 rfl) ?_
  refine g_calli (va_runV (As := [.int _]) (rest := []) ⟨hx, hb, hml, hown, hts⟩ (c_isBooking l D K _ (a 0 0) (a 0 1) (a 0 2) (a 0 3) (a 3 co) (nI B) (nI q.length) (nI mh) fl _ _ rfl) (cwV 1 hts gX2_has_X2_isBooking rfl rfl rfl (by decide +kernel) ⟨(Nat.le_of_ble_eq_true rfl), (Nat.le_of_ble_eq_true rfl)⟩) (g_preV hK hP hD (ci := 2) (q0 := 0) rfl (rfl)) rfl rfl hl.1 rfl (lv_room (Nat.le_of_ble_eq_true rfl)) dX2_has_2 ⟨Nat.zero_le _, Nat.zero_le _⟩) hD hS hA (fun r2 wv H locs hw hP hD hS => ?_)
  obtain ⟨ew, e2⟩ := hw
  rw [ew] at hP hD
  refine lv_if_eq (tgt := 15) hx hb dX2_has_5 (by decide) (fun c5 => ?_) (fun c5 => ?_)
  · simp only [e2, Classical.not_not] at c5
    refine lv_iconst (v := -1) hx hb dX2_has_15 (by decide) ?_
    exact g_iret hx hb hr hlocks (Nat.le_of_ble_eq_true rfl) (Nat.le_of_ble_eq_true rfl) hK hP hD hS dX2_has_16 (by unfold opHas; rw [if_neg (fun h => c5 h.1)]; exact ⟨rfl, ⟨a, ho, bk, pl, pn, pm, nm, co, qu, rfl, rfl, hM, hPs, hlc, hLc⟩⟩)
  · simp only [e2, Classical.not_not] at c5
    refine lv_iload_n hx hb dX2_has_8 rfl (lv_at hl 2 rfl) ?_
    refine g_calli (va_runS (As := [.int _]) (rest := []) ⟨hx, hb, hml, hown, hts⟩ (c_isRow l D K _ _ _) (va_cwS 1 hts gX2_has_X2_isRow rfl rfl rfl (by decide +kernel) ⟨(Nat.le_of_ble_eq_true rfl), (Nat.le_of_ble_eq_true rfl)⟩) (g_preS hK hP hD) rfl rfl hl.1 rfl (lv_room (Nat.le_of_ble_eq_true rfl)) dX2_has_9 ⟨Nat.zero_le _, Nat.zero_le _⟩) hD hS hA (fun r9 wv H locs hw hP hD hS => ?_)
    obtain ⟨ew, e9⟩ := hw
    rw [ew] at hP hD
    refine lv_if_ne (tgt := 17) hx hb dX2_has_12 (by decide) (fun c12 => ?_) (fun c12 => ?_)
    · simp only [e9, Classical.not_not] at c12
      obtain ⟨r, hr10, rfl⟩ := g_ix (n := 10) rfl c12
      have hrz := hz r hr10
      have hxr : ixN (nI r) = r := ixN_nI (by omega)
      refine lv_aload_n hx hb dX2_has_17 rfl (lv_at hl 0 rfl) ?_
      refine va_get (C := RX2) (T := TX2) (N := 8) (ci := 2) hx hb hts hi_X2 hown hK hP (0) (rfl) rfl 0 (by decide) (hts (.fieldLink RX2 11 "GroupSeats" "rows" "[LGroupSeats$Row;") (by decide +kernel)) (fun _ h9 => h9) rfl dX2_has_18 ?_
      refine lv_iload_n hx hb dX2_has_21 rfl (lv_at hl 2 rfl) ?_
      refine g_aldq hx hb hK hP (1) 2 (rfl) rfl (vp_in_nI hr10 (by decide)) (gRf_at hr10 (by decide)) dX2_has_22 ?_
      refine lv_iload_n hx hb dX2_has_23 rfl (lv_at hl 1 rfl) ?_
      refine g_calli (va_runV (As := [.int _]) (rest := []) ⟨hx, hb, hml, hown, hts⟩ (c_seatsOf l D K _ (a 1 r) (a 2 r) (2 * r + 4) (2 * r + 1 + 4) (z r) (sd r) (ho r) (bk r) (ow r) _ _ (hz r hr10) (hW_row hr10) (hW_own hr10)) (cwV 1 hts gX2_has_X1_seatsOf rfl rfl rfl (by decide +kernel) ⟨(Nat.le_of_ble_eq_true rfl), (Nat.le_of_ble_eq_true rfl)⟩) (g_preV hK hP hD (ci := 1) (q0 := 2 * r + 4) rfl (hW_row hr10)) rfl rfl hl.1 rfl (lv_room (Nat.le_of_ble_eq_true rfl)) dX2_has_24 ⟨Nat.zero_le _, Nat.zero_le _⟩) hD hS hA (fun r24 wv H locs hw hP hD hS => ?_)
      obtain ⟨ew, er⟩ := hw
      rw [ew] at hP hD
      subst er
      exact g_iret hx hb hr hlocks (Nat.le_of_ble_eq_true rfl) (Nat.le_of_ble_eq_true rfl) hK hP hD hS dX2_has_27 (by unfold opHas; rw [if_pos ⟨c5, inRow_nI hr10⟩, hxr]; exact ⟨rfl, ⟨a, ho, bk, pl, pn, pm, nm, co, qu, rfl, rfl, hM, hPs, hlc, hLc⟩⟩)
    · simp only [e9, Classical.not_not] at c12
      refine lv_iconst (v := -1) hx hb dX2_has_15 (by decide) ?_
      exact g_iret hx hb hr hlocks (Nat.le_of_ble_eq_true rfl) (Nat.le_of_ble_eq_true rfl) hK hP hD hS dX2_has_16 (by unfold opHas; rw [if_neg (fun h => c12 h.2)]; exact ⟨rfl, ⟨a, ho, bk, pl, pn, pm, nm, co, qu, rfl, rfl, hM, hPs, hlc, hLc⟩⟩)
theorem g_sw (x : Int32) (n : Nat) (hn : n < 2 ^ 31) : (x.toInt < 0 ∨ (n : Int) < x.toInt) ∨ ∃ j : Nat, j ≤ n ∧ x = nI j := by
  by_cases h0 : x.toInt < 0
  · exact Or.inl (Or.inl h0)
  · by_cases h1 : (n : Int) < x.toInt
    · exact Or.inl (Or.inr h1)
    · obtain ⟨j, hj, rfl⟩ := nI_of (x := x) (by rw [Int32.lt_iff_toInt_lt, gl_0]; exact h0)
      rw [nI_toInt hj] at h1
      exact Or.inr ⟨j, by omega, rfl⟩
set_option maxHeartbeats 4000000 in
set_option maxRecDepth 100000 in
theorem h_about (l : Launch) (D : va_G) (K : gCl) (a : Nat → Nat → Nat) (z : Nat → Nat) (sd ho bk : Nat → Int32) (ow : Nat → Nat → Int32) (pl pn pm : Nat → Int32) (nm : Nat → Nat → Int32) (cn : Nat → Int32) (co : Nat) (qu : Nat → Nat) (B mh : Nat) (fl : Int32) (q : List Pty) (li : List Nat) (x k : Int32) (sz : Nat) (hz : ∀ i, i < 10 → z i ≤ 20) (hB40 : B ≤ 40) (hq8 : q.length ≤ 8) (hmh6 : mh ≤ 6) (hM : PM qu co) (hPs : PQ pl pn pm nm qu 0 q) (hlc : pl co = nI li.length) (hLc : isL (nm co) li) : gMi l yX2_about wsX2_about ({ frames := 14, cells := 0, slots := 0, locals := 420 } : Room) D vwCl (gT K) [.ref (a 0 0), .int x, .int k] (hW K a z sd ho bk ow pl pn pm nm cn co qu (nI B) (nI q.length) (nI mh) fl) sz (fun _ w1 => CW K (a 0 0) (z, sd, ow, cn, B, q, li, mh, fl) w1) 0 0 := by
  refine g_of (cc := cX2_about) (maxL := 4) (ret := (some .int)) (Qc := fun A => va_Qi (fun _ w1 => CW K (a 0 0) (z, sd, ow, cn, B, q, li, mh, fl) w1) (gB D vwCl (gT K) A) A) (by decide) rfl (Nat.le_of_ble_eq_true rfl) ?_
  intro p e s m below meth c A ls I hl
  have I0 := I
  obtain ⟨hx, hb, hr, hml, hown, hts, hlocks, hnm, hA, hK, hP, hD, hS⟩ := I
  have hown : s.vm.findClass RX2 = some m.cls := hown
  have hl : lv_has ls 4 [(0, .ref (a 0 0)), (1, .int x), (2, .int k)] := hl
  have hi_X2 : ∀ w ∈ u_ws RX2 TX2 8, w ∈ wsX2_about := by decide +kernel
  have hi_X1 : ∀ w ∈ u_ws RX1 TX1 5, w ∈ wsX2_about := by decide +kernel
  have hco := hM.2.1
  refine lv_iload_n hx hb dX2_about_0 rfl (lv_at hl 1 rfl) ?_
  refine g_calli (va_runS (As := [.int _]) (rest := []) ⟨hx, hb, hml, hown, hts⟩ (c_isRow l D K _ _ _) (va_cwS 1 hts gX2_about_X2_isRow rfl rfl rfl (by decide +kernel) ⟨(Nat.le_of_ble_eq_true rfl), (Nat.le_of_ble_eq_true rfl)⟩) (g_preS hK hP hD) rfl rfl hl.1 rfl (lv_room (Nat.le_of_ble_eq_true rfl)) dX2_about_1 ⟨Nat.zero_le _, Nat.zero_le _⟩) hD hS hA (fun r1 wv H locs hw hP hD hS => ?_)
  obtain ⟨ew, e1⟩ := hw
  rw [ew] at hP hD
  refine lv_if_eq (tgt := 16) hx hb dX2_about_4 (by decide) (fun c4 => ?_) (fun c4 => ?_)
  · simp only [e1, Classical.not_not] at c4
    refine lv_iconst (v := -1) hx hb dX2_about_16 (by decide) ?_
    exact g_iret hx hb hr hlocks (Nat.le_of_ble_eq_true rfl) (Nat.le_of_ble_eq_true rfl) hK hP hD hS dX2_about_17 (⟨a, ho, bk, pl, pn, pm, nm, co, qu, rfl, rfl, hM, hPs, hlc, hLc⟩)
  · simp only [e1, Classical.not_not] at c4
    refine lv_iload_n hx hb dX2_about_7 rfl (lv_at hl 2 rfl) ?_
    refine lv_if_lt (tgt := 16) hx hb dX2_about_8 (by decide) (fun c8 => ?_) (fun c8 => ?_)
    · refine lv_iconst (v := -1) hx hb dX2_about_16 (by decide) ?_
      exact g_iret hx hb hr hlocks (Nat.le_of_ble_eq_true rfl) (Nat.le_of_ble_eq_true rfl) hK hP hD hS dX2_about_17 (⟨a, ho, bk, pl, pn, pm, nm, co, qu, rfl, rfl, hM, hPs, hlc, hLc⟩)
    · refine lv_iload_n hx hb dX2_about_11 rfl (lv_at hl 2 rfl) ?_
      refine lv_iconst (v := 3) hx hb dX2_about_12 (by decide) ?_
      refine lv_icmp_le (tgt := 18) hx hb dX2_about_13 (by decide) (fun c13 => ?_) (fun c13 => ?_)
      · obtain ⟨r, hr10, rfl⟩ := g_ix (n := 10) rfl c4
        have hrz := hz r hr10
        have hxr : ixN (nI r) = r := ixN_nI (by omega)
        refine lv_aload_n hx hb dX2_about_18 rfl (lv_at hl 0 rfl) ?_
        refine va_get (C := RX2) (T := TX2) (N := 8) (ci := 2) hx hb hts hi_X2 hown hK hP (0) (rfl) rfl 0 (by decide) (hts (.fieldLink RX2 11 "GroupSeats" "rows" "[LGroupSeats$Row;") (by decide +kernel)) (fun _ h9 => h9) rfl dX2_about_19 ?_
        refine lv_iload_n hx hb dX2_about_22 rfl (lv_at hl 1 rfl) ?_
        refine g_aldq hx hb hK hP (1) 2 (rfl) rfl (vp_in_nI hr10 (by decide)) (gRf_at hr10 (by decide)) dX2_about_23 ?_
        refine lv_astore_n (lv' := [(3, .ref _), (0, .ref _), (1, .int _), (2, .int _)]) hx hb dX2_about_24 rfl hl (by decide) rfl (fun ls hl => ?_)
        refine lv_aload_n hx hb dX2_about_25 rfl (lv_at hl 0 rfl) ?_
        refine g_calli (va_runV (As := []) (rest := []) ⟨hx, hb, hml, hown, hts⟩ (c_isOpen l D K _ (a 1 r) (a 2 r) (2 * r + 4) (nI (z r)) (sd r) (ho r) (bk r) _ (hW_row hr10)) (cwV 0 hts gX2_about_X1_isOpen rfl rfl rfl (by decide +kernel) ⟨(Nat.le_of_ble_eq_true rfl), (Nat.le_of_ble_eq_true rfl)⟩) (g_preV hK hP hD (ci := 1) (q0 := 2 * r + 4) rfl (hW_row hr10)) rfl rfl hl.1 rfl (lv_room (Nat.le_of_ble_eq_true rfl)) dX2_about_26 ⟨Nat.zero_le _, Nat.zero_le _⟩) hD hS hA (fun r26 wv H locs hw hP hD hS => ?_)
        obtain ⟨ew, e26⟩ := hw
        rw [ew] at hP hD
        refine lv_if_ne (tgt := 35) hx hb dX2_about_29 (by decide) (fun c29 => ?_) (fun c29 => ?_)
        · refine lv_iload_n hx hb dX2_about_35 rfl (lv_at hl 3 rfl) ?_
          rcases g_sw k 2 (by decide) with hk | ⟨i, hi, rfl⟩
          · refine lv_tableOut (tgt := 81) hx hb dX2_about_36 hk (by decide) ?_
            refine lv_aload_n hx hb dX2_about_81 rfl (lv_at hl 0 rfl) ?_
            refine va_get (C := RX1) (T := TX1) (N := 5) (ci := 1) hx hb hts hi_X1 hown hK hP (2 * r + 4) (hW_row hr10) rfl 1 (by decide) (hts (.fieldLink RX2 51 "GroupSeats$Row" "size" "I") (by decide +kernel)) (fun _ h9 => h9) rfl dX2_about_82 ?_
            exact g_iret hx hb hr hlocks (Nat.le_of_ble_eq_true rfl) (Nat.le_of_ble_eq_true rfl) hK hP hD hS dX2_about_85 (⟨a, ho, bk, pl, pn, pm, nm, co, qu, rfl, rfl, hM, hPs, hlc, hLc⟩)
          · rcases (show i = 0 ∨ i = 1 ∨ i = 2 by omega) with rfl | rfl | rfl
            · refine lv_tableIn (off := 28) (tgt := 64) hx hb dX2_about_36 (by decide) (by decide) rfl (by decide) ?_
              refine lv_aload_n hx hb dX2_about_64 rfl (lv_at hl 0 rfl) ?_
              refine lv_bipush (v := -8) hx hb dX2_about_65 (by decide) ?_
              refine g_calli (va_runV (As := [.int _]) (rest := []) ⟨hx, hb, hml, hown, hts⟩ (c_seatsOf l D K _ (a 1 r) (a 2 r) (2 * r + 4) (2 * r + 1 + 4) (z r) (sd r) (ho r) (bk r) (ow r) _ _ (hz r hr10) (hW_row hr10) (hW_own hr10)) (cwV 1 hts gX2_about_X1_seatsOf rfl rfl rfl (by decide +kernel) ⟨(Nat.le_of_ble_eq_true rfl), (Nat.le_of_ble_eq_true rfl)⟩) (g_preV hK hP hD (ci := 1) (q0 := 2 * r + 4) rfl (hW_row hr10)) rfl rfl hl.1 rfl (lv_room (Nat.le_of_ble_eq_true rfl)) dX2_about_67 ⟨Nat.zero_le _, Nat.zero_le _⟩) hD hS hA (fun r67 wv H locs hw hP hD hS => ?_)
              obtain ⟨ew, er⟩ := hw
              rw [ew] at hP hD
              subst er
              exact g_iret hx hb hr hlocks (Nat.le_of_ble_eq_true rfl) (Nat.le_of_ble_eq_true rfl) hK hP hD hS dX2_about_70 (⟨a, ho, bk, pl, pn, pm, nm, co, qu, rfl, rfl, hM, hPs, hlc, hLc⟩)
            · refine lv_tableIn (off := 35) (tgt := 71) hx hb dX2_about_36 (by decide) (by decide) rfl (by decide) ?_
              refine lv_aload_n hx hb dX2_about_71 rfl (lv_at hl 0 rfl) ?_
              refine va_get (C := RX1) (T := TX1) (N := 5) (ci := 1) hx hb hts hi_X1 hown hK hP (2 * r + 4) (hW_row hr10) rfl 3 (by decide) (hts (.fieldLink RX2 95 "GroupSeats$Row" "holds" "I") (by decide +kernel)) (fun _ h9 => h9) rfl dX2_about_72 ?_
              exact g_iret hx hb hr hlocks (Nat.le_of_ble_eq_true rfl) (Nat.le_of_ble_eq_true rfl) hK hP hD hS dX2_about_75 (⟨a, ho, bk, pl, pn, pm, nm, co, qu, rfl, rfl, hM, hPs, hlc, hLc⟩)
            · refine lv_tableIn (off := 40) (tgt := 76) hx hb dX2_about_36 (by decide) (by decide) rfl (by decide) ?_
              refine lv_aload_n hx hb dX2_about_76 rfl (lv_at hl 0 rfl) ?_
              refine va_get (C := RX1) (T := TX1) (N := 5) (ci := 1) hx hb hts hi_X1 hown hK hP (2 * r + 4) (hW_row hr10) rfl 4 (by decide) (hts (.fieldLink RX2 98 "GroupSeats$Row" "backs" "I") (by decide +kernel)) (fun _ h9 => h9) rfl dX2_about_77 ?_
              exact g_iret hx hb hr hlocks (Nat.le_of_ble_eq_true rfl) (Nat.le_of_ble_eq_true rfl) hK hP hD hS dX2_about_80 (⟨a, ho, bk, pl, pn, pm, nm, co, qu, rfl, rfl, hM, hPs, hlc, hLc⟩)
        · refine lv_bipush (v := -2) hx hb dX2_about_32 (by decide) ?_
          exact g_iret hx hb hr hlocks (Nat.le_of_ble_eq_true rfl) (Nat.le_of_ble_eq_true rfl) hK hP hD hS dX2_about_34 (⟨a, ho, bk, pl, pn, pm, nm, co, qu, rfl, rfl, hM, hPs, hlc, hLc⟩)
      · refine lv_iconst (v := -1) hx hb dX2_about_16 (by decide) ?_
        exact g_iret hx hb hr hlocks (Nat.le_of_ble_eq_true rfl) (Nat.le_of_ble_eq_true rfl) hK hP hD hS dX2_about_17 (⟨a, ho, bk, pl, pn, pm, nm, co, qu, rfl, rfl, hM, hPs, hlc, hLc⟩)
set_option maxHeartbeats 4000000 in
set_option maxRecDepth 100000 in
theorem h_waiting (l : Launch) (D : va_G) (K : gCl) (a : Nat → Nat → Nat) (z : Nat → Nat) (sd ho bk : Nat → Int32) (ow : Nat → Nat → Int32) (pl pn pm : Nat → Int32) (nm : Nat → Nat → Int32) (cn : Nat → Int32) (co : Nat) (qu : Nat → Nat) (B mh : Nat) (fl : Int32) (q : List Pty) (li : List Nat) (x : Int32) (sz : Nat) (hz : ∀ i, i < 10 → z i ≤ 20) (hB40 : B ≤ 40) (hq8 : q.length ≤ 8) (hmh6 : mh ≤ 6) (hM : PM qu co) (hPs : PQ pl pn pm nm qu 0 q) (hlc : pl co = nI li.length) (hLc : isL (nm co) li) : gMi l yX2_waiting wsX2_waiting ({ frames := 14, cells := 0, slots := 0, locals := 420 } : Room) D vwCl (gT K) [.ref (a 0 0), .int x] (hW K a z sd ho bk ow pl pn pm nm cn co qu (nI B) (nI q.length) (nI mh) fl) sz (RP K (a 0 0) (opWaiting z sd ow cn B q li mh fl x)) 0 0 := by
  refine g_of (cc := cX2_waiting) (maxL := 2) (ret := (some .int)) (Qc := fun A => va_Qi (RP K (a 0 0) (opWaiting z sd ow cn B q li mh fl x)) (gB D vwCl (gT K) A) A) (by decide) rfl (Nat.le_of_ble_eq_true rfl) ?_
  intro p e s m below meth c A ls I hl
  have I0 := I
  obtain ⟨hx, hb, hr, hml, hown, hts, hlocks, hnm, hA, hK, hP, hD, hS⟩ := I
  have hown : s.vm.findClass RX2 = some m.cls := hown
  have hl : lv_has ls 2 [(0, .ref (a 0 0)), (1, .int x)] := hl
  have hi_X2 : ∀ w ∈ u_ws RX2 TX2 8, w ∈ wsX2_waiting := by decide +kernel
  have hi_X0 : ∀ w ∈ u_ws RX0 TX0 4, w ∈ wsX2_waiting := by decide +kernel
  have hco := hM.2.1
  refine lv_aload_n hx hb dX2_waiting_0 rfl (lv_at hl 0 rfl) ?_
  refine lv_iload_n hx hb dX2_waiting_1 rfl (lv_at hl 1 rfl) ?_
  refine g_calli (va_runV (As := [.int _]) (rest := []) ⟨hx, hb, hml, hown, hts⟩ (c_isWaiting l D K _ (a 0 0) (a 0 1) (a 0 2) (a 0 3) (a 3 co) (nI B) (nI q.length) (nI mh) fl _ _ rfl) (cwV 1 hts gX2_waiting_X2_isWaiting rfl rfl rfl (by decide +kernel) ⟨(Nat.le_of_ble_eq_true rfl), (Nat.le_of_ble_eq_true rfl)⟩) (g_preV hK hP hD (ci := 2) (q0 := 0) rfl (rfl)) rfl rfl hl.1 rfl (lv_room (Nat.le_of_ble_eq_true rfl)) dX2_waiting_2 ⟨Nat.zero_le _, Nat.zero_le _⟩) hD hS hA (fun r2 wv H locs hw hP hD hS => ?_)
  obtain ⟨ew, e2⟩ := hw
  rw [ew] at hP hD
  refine lv_if_eq (tgt := 20) hx hb dX2_waiting_5 (by decide) (fun c5 => ?_) (fun c5 => ?_)
  · simp only [e2, Classical.not_not] at c5
    refine lv_bipush (v := -8) hx hb dX2_waiting_20 (by decide) ?_
    exact g_iret hx hb hr hlocks (Nat.le_of_ble_eq_true rfl) (Nat.le_of_ble_eq_true rfl) hK hP hD hS dX2_waiting_22 (by unfold opWaiting; rw [if_neg c5]; exact ⟨rfl, ⟨a, ho, bk, pl, pn, pm, nm, co, qu, rfl, rfl, hM, hPs, hlc, hLc⟩⟩)
  · simp only [e2, Classical.not_not] at c5
    obtain ⟨k0, hk0, rfl⟩ := g_ixn (n := q.length) (by omega) c5
    have hR := hPs k0 q[k0] (List.getElem?_eq_getElem hk0)
    rw [Nat.zero_add] at hR
    have hxk : ixN (nI k0) = k0 := ixN_nI (by omega)
    have hgd : q.getD k0 (0, []) = q[k0] := by simp [List.getD_eq_getElem?_getD, hk0]
    refine lv_aload_n hx hb dX2_waiting_8 rfl (lv_at hl 0 rfl) ?_
    refine va_get (C := RX2) (T := TX2) (N := 8) (ci := 2) hx hb hts hi_X2 hown hK hP (0) (rfl) rfl 2 (by decide) (hts (.fieldLink RX2 21 "GroupSeats" "queue" "[LGroupSeats$Party;") (by decide +kernel)) (fun _ h9 => h9) rfl dX2_waiting_9 ?_
    refine lv_iload_n hx hb dX2_waiting_12 rfl (lv_at hl 1 rfl) ?_
    refine g_aldq hx hb hK hP (3) 3 (rfl) rfl (vp_in_nI (show k0 < 8 by omega) (by decide)) (gRf_at (show k0 < 8 by omega) (by decide)) dX2_waiting_13 ?_
    refine va_get (C := RX0) (T := TX0) (N := 4) (ci := 0) hx hb hts hi_X0 hown hK hP (2 * (qu k0) + 20 + 4) (hW_par (hM.1 k0 (by omega))) rfl 2 (by decide) (hts (.fieldLink RX2 69 "GroupSeats$Party" "size" "I") (by decide +kernel)) (fun _ h9 => h9) rfl dX2_waiting_14 ?_
    refine lv_goto (tgt := 22) hx hb dX2_waiting_17 (by decide) ?_
    exact g_iret hx hb hr hlocks (Nat.le_of_ble_eq_true rfl) (Nat.le_of_ble_eq_true rfl) hK hP hD hS dX2_waiting_22 (by unfold opWaiting; rw [if_pos c5, hxk, hgd, hR.2.1]; exact ⟨rfl, ⟨a, ho, bk, pl, pn, pm, nm, co, qu, rfl, rfl, hM, hPs, hlc, hLc⟩⟩)
set_option maxHeartbeats 4000000 in
set_option maxRecDepth 100000 in
theorem lp_openRows {p : Program} {l : Launch} {e : Env} {s : State} {m : MethodId} {args : Array Value} {below : List Frame} {meth : Method} {c : Code} {A : Nat → Prop} {D : va_G} {K : gCl} {ws0 : va_W} {a : Nat → Nat → Nat} {z : Nat → Nat} {sd ho bk : Nat → Int32} {ow : Nat → Nat → Int32} {pl pn pm : Nat → Int32} {nm : Nat → Nat → Int32} {cn : Nat → Int32} {co : Nat} {qu : Nat → Nat} {B wt mh fl : Int32} (hz : ∀ i, i < 10 → z i ≤ 20)
    (I : gIn p s m meth c A yX2_openRows wsX2_openRows cX2_openRows 3 (some .int) args D vwCl (gT K) ws0)  :
    ∀ (k : Nat) (r : Nat) (H : Heap) (locs : List Loc), r + k = 10 → va_P D vwCl (hW K a z sd ho bk ow pl pn pm nm cn co qu B wt mh fl) H → va_D A (hW K a z sd ho bk ow pl pn pm nm cn co qu B wt mh fl) → va_S A s.heap H locs →
    ∀ (ls : Array Slot), lv_has ls 3 [(2, .int (nI r)), (1, .int (nI (cntO z r))), (0, .ref (a 0 0))] →
    W p l e ({ frames := 1, cells := 0, slots := 0, locals := 40 } : Room) s m args below meth c H locs 0 0 (MQ below (va_Qi (fun r1 w1 => w1 = hW K a z sd ho bk ow pl pn pm nm cn co qu B wt mh fl ∧ r1 = nI (cntO z 10)) (gB D vwCl (gT K) A) A) args s 0 0 A) (F0 m 4 ls []) := by
  have I0 := I
  obtain ⟨hx, hb, hr, hml, hown, hts, hlocks, hnm, hA, hK, -, -, -⟩ := I
  have hown : s.vm.findClass RX2 = some m.cls := hown
  have hi_X2 : ∀ w ∈ u_ws RX2 TX2 8, w ∈ wsX2_openRows := by decide +kernel
  have hi_X1 : ∀ w ∈ u_ws RX1 TX1 5, w ∈ wsX2_openRows := by decide +kernel
  intro k
  induction k with
  | zero =>
    intro r H locs hi hP hD hS ls hl
    have hr1 : r = 10 := by omega
    subst hr1
    refine lv_iload_n hx hb dX2_openRows_4 rfl (lv_at hl 0 rfl) ?_
    refine lv_bipush (v := 10) hx hb dX2_openRows_5 (by decide) ?_
    refine lv_icmp_ge (tgt := 31) hx hb dX2_openRows_7 (by decide) (fun c7 => ?_) (fun c7 => ?_)
    · refine lv_iload_n hx hb dX2_openRows_31 rfl (lv_at hl 1 rfl) ?_
      exact g_iret hx hb hr hlocks (Nat.le_of_ble_eq_true rfl) (Nat.le_of_ble_eq_true rfl) hK hP hD hS dX2_openRows_32 (⟨rfl, rfl⟩)
    · exact absurd (nI_le (a := 10) (by omega) (by omega)) c7
  | succ k ih =>
    intro r H locs hi hP hD hS ls hl
    have hr10 : r < 10 := by omega
    have hrz := hz r hr10
    refine lv_iload_n hx hb dX2_openRows_4 rfl (lv_at hl 0 rfl) ?_
    refine lv_bipush (v := 10) hx hb dX2_openRows_5 (by decide) ?_
    refine lv_icmp_ge (tgt := 31) hx hb dX2_openRows_7 (by decide) (fun c7 => ?_) (fun c7 => ?_)
    · exact absurd c7 (nI_ge (b := 10) (by omega) (by decide))
    · refine lv_aload_n hx hb dX2_openRows_10 rfl (lv_at hl 2 rfl) ?_
      refine va_get (C := RX2) (T := TX2) (N := 8) (ci := 2) hx hb hts hi_X2 hown hK hP (0) (rfl) rfl 0 (by decide) (hts (.fieldLink RX2 11 "GroupSeats" "rows" "[LGroupSeats$Row;") (by decide +kernel)) (fun _ h9 => h9) rfl dX2_openRows_11 ?_
      refine lv_iload_n hx hb dX2_openRows_14 rfl (lv_at hl 0 rfl) ?_
      refine g_aldq hx hb hK hP (1) 2 (rfl) rfl (vp_in_nI hr10 (by decide)) (gRf_at hr10 (by decide)) dX2_openRows_15 ?_
      refine g_calli (va_runV (As := []) (rest := []) ⟨hx, hb, hml, hown, hts⟩ (c_isOpen l D K _ (a 1 r) (a 2 r) (2 * r + 4) (nI (z r)) (sd r) (ho r) (bk r) _ (hW_row hr10)) (cwV 0 hts gX2_openRows_X1_isOpen rfl rfl rfl (by decide +kernel) ⟨(Nat.le_of_ble_eq_true rfl), (Nat.le_of_ble_eq_true rfl)⟩) (g_preV hK hP hD (ci := 1) (q0 := 2 * r + 4) rfl (hW_row hr10)) rfl rfl hl.1 rfl (lv_room (Nat.le_of_ble_eq_true rfl)) dX2_openRows_16 ⟨Nat.zero_le _, Nat.zero_le _⟩) hD hS hA (fun r16 wv H locs hw hP hD hS => ?_)
      obtain ⟨ew, e16⟩ := hw
      rw [ew] at hP hD
      refine lv_if_eq (tgt := 25) hx hb dX2_openRows_19 (by decide) (fun c19 => ?_) (fun c19 => ?_)
      · refine lv_iinc (lv' := [(2, .int _), (1, .int _), (0, .ref _)]) hx hb dX2_openRows_25 hl (k := 0) rfl rfl (by decide) rfl (fun ls hl => ?_)
        refine lv_goto (tgt := 4) hx hb dX2_openRows_28 (by decide) ?_
        rw [g_inc] at hl
        have hzr : z r = 0 := Classical.not_not.mp (fun h0 => (e16.mp c19) (by rw [show (0 : Int32) = nI 0 from rfl]; exact nI_lt (by omega) (by omega)))
        have e1 : cntO z (r + 1) = cntO z r := by simp [cntO, hzr]
        rw [← e1] at hl
        exact ih (r + 1) H locs (by omega) hP hD hS ls (lv_sub hl [0, 1, 2] rfl)
      · refine lv_iinc (lv' := [(1, .int _), (2, .int _), (0, .ref _)]) hx hb dX2_openRows_22 hl (k := 1) rfl rfl (by decide) rfl (fun ls hl => ?_)
        refine lv_iinc (lv' := [(2, .int _), (1, .int _), (0, .ref _)]) hx hb dX2_openRows_25 hl (k := 1) rfl rfl (by decide) rfl (fun ls hl => ?_)
        refine lv_goto (tgt := 4) hx hb dX2_openRows_28 (by decide) ?_
        rw [g_inc] at hl
        rw [g_inc] at hl
        have hzr : z r ≠ 0 := fun h0 => c19 (e16.mpr (by rw [h0]; decide))
        have e1 : cntO z (r + 1) = cntO z r + 1 := by simp [cntO, hzr]
        rw [← e1] at hl
        exact ih (r + 1) H locs (by omega) hP hD hS ls (lv_sub hl [0, 1, 2] rfl)
set_option maxHeartbeats 4000000 in
set_option maxRecDepth 100000 in
theorem h_openRows (l : Launch) (D : va_G) (K : gCl) (a : Nat → Nat → Nat) (z : Nat → Nat) (sd ho bk : Nat → Int32) (ow : Nat → Nat → Int32) (pl pn pm : Nat → Int32) (nm : Nat → Nat → Int32) (cn : Nat → Int32) (co : Nat) (qu : Nat → Nat) (B wt mh fl : Int32) (sz : Nat) (hz : ∀ i, i < 10 → z i ≤ 20) : gMi l yX2_openRows wsX2_openRows ({ frames := 1, cells := 0, slots := 0, locals := 40 } : Room) D vwCl (gT K) [.ref (a 0 0)] (hW K a z sd ho bk ow pl pn pm nm cn co qu B wt mh fl) sz (fun r1 w1 => w1 = hW K a z sd ho bk ow pl pn pm nm cn co qu B wt mh fl ∧ r1 = nI (cntO z 10)) 0 0 := by
  refine g_of (cc := cX2_openRows) (maxL := 3) (ret := (some .int)) (Qc := fun A => va_Qi (fun r1 w1 => w1 = hW K a z sd ho bk ow pl pn pm nm cn co qu B wt mh fl ∧ r1 = nI (cntO z 10)) (gB D vwCl (gT K) A) A) (by decide) rfl (Nat.le_of_ble_eq_true rfl) ?_
  intro p e s m below meth c A ls I hl
  have I0 := I
  obtain ⟨hx, hb, hr, hml, hown, hts, hlocks, hnm, hA, hK, hP, hD, hS⟩ := I
  have hown : s.vm.findClass RX2 = some m.cls := hown
  have hl : lv_has ls 3 [(0, .ref (a 0 0))] := hl
  have hi_X2 : ∀ w ∈ u_ws RX2 TX2 8, w ∈ wsX2_openRows := by decide +kernel
  refine lv_iconst (v := 0) hx hb dX2_openRows_0 (by decide) ?_
  refine lv_istore_n (lv' := [(1, .int _), (0, .ref _)]) hx hb dX2_openRows_1 rfl hl (by decide) rfl (fun ls hl => ?_)
  refine lv_iconst (v := 0) hx hb dX2_openRows_2 (by decide) ?_
  refine lv_istore_n (lv' := [(2, .int _), (1, .int _), (0, .ref _)]) hx hb dX2_openRows_3 rfl hl (by decide) rfl (fun ls hl => ?_)
  exact lp_openRows hz I0 10 0 _ _ (by omega) hP hD hS ls (lv_sub hl [0, 1, 2] rfl)
theorem told_out {x : Int32} (h : x.toInt < 0 ∨ 5 < x.toInt) : x ≠ 0 ∧ x ≠ 1 ∧ x ≠ 2 ∧ x ≠ 3 ∧ x ≠ 4 ∧ x ≠ 5 := by
  refine ⟨?_, ?_, ?_, ?_, ?_, ?_⟩ <;> (intro q; subst q; revert h; decide)
set_option maxHeartbeats 4000000 in
set_option maxRecDepth 100000 in
theorem h_told (l : Launch) (D : va_G) (K : gCl) (a : Nat → Nat → Nat) (z : Nat → Nat) (sd ho bk : Nat → Int32) (ow : Nat → Nat → Int32) (pl pn pm : Nat → Int32) (nm : Nat → Nat → Int32) (cn : Nat → Int32) (co : Nat) (qu : Nat → Nat) (B mh : Nat) (fl : Int32) (q : List Pty) (li : List Nat) (k : Int32) (sz : Nat) (hz : ∀ i, i < 10 → z i ≤ 20) (hB40 : B ≤ 40) (hq8 : q.length ≤ 8) (hmh6 : mh ≤ 6) (hM : PM qu co) (hPs : PQ pl pn pm nm qu 0 q) (hlc : pl co = nI li.length) (hLc : isL (nm co) li) : gMi l yX2_told wsX2_told ({ frames := 14, cells := 0, slots := 0, locals := 420 } : Room) D vwCl (gT K) [.ref (a 0 0), .int k] (hW K a z sd ho bk ow pl pn pm nm cn co qu (nI B) (nI q.length) (nI mh) fl) sz (RP K (a 0 0) (opTold z sd ow cn B q li mh fl k)) 0 0 := by
  refine g_of (cc := cX2_told) (maxL := 2) (ret := (some .int)) (Qc := fun A => va_Qi (RP K (a 0 0) (opTold z sd ow cn B q li mh fl k)) (gB D vwCl (gT K) A) A) (by decide) rfl (Nat.le_of_ble_eq_true rfl) ?_
  intro p e s m below meth c A ls I hl
  have I0 := I
  obtain ⟨hx, hb, hr, hml, hown, hts, hlocks, hnm, hA, hK, hP, hD, hS⟩ := I
  have hown : s.vm.findClass RX2 = some m.cls := hown
  have hl : lv_has ls 2 [(0, .ref (a 0 0)), (1, .int k)] := hl
  have hi_X2 : ∀ w ∈ u_ws RX2 TX2 8, w ∈ wsX2_told := by decide +kernel
  have hi_X0 : ∀ w ∈ u_ws RX0 TX0 4, w ∈ wsX2_told := by decide +kernel
  have hco := hM.2.1
  refine lv_iload_n hx hb dX2_told_0 rfl (lv_at hl 1 rfl) ?_
  rcases g_sw k 5 (by decide) with hk | ⟨i, hi, rfl⟩
  · refine lv_tableOut (tgt := 73) hx hb dX2_told_1 hk (by decide) ?_
    refine lv_iconst (v := -1) hx hb dX2_told_73 (by decide) ?_
    exact g_iret hx hb hr hlocks (Nat.le_of_ble_eq_true rfl) (Nat.le_of_ble_eq_true rfl) hK hP hD hS dX2_told_74 (by obtain ⟨q0, q1, q2, q3, q4, q5⟩ := told_out hk; unfold opTold; rw [if_neg q0, if_neg q1, if_neg q2, if_neg q3, if_neg q4, if_neg q5]; exact ⟨rfl, ⟨a, ho, bk, pl, pn, pm, nm, co, qu, rfl, rfl, hM, hPs, hlc, hLc⟩⟩)
  · rcases (show i = 0 ∨ i = 1 ∨ i = 2 ∨ i = 3 ∨ i = 4 ∨ i = 5 by omega) with rfl | rfl | rfl | rfl | rfl | rfl
    · refine lv_tableIn (off := 39) (tgt := 40) hx hb dX2_told_1 (by decide) (by decide) rfl (by decide) ?_
      refine lv_aload_n hx hb dX2_told_40 rfl (lv_at hl 0 rfl) ?_
      refine va_get (C := RX2) (T := TX2) (N := 8) (ci := 2) hx hb hts hi_X2 hown hK hP (0) (rfl) rfl 4 (by decide) (hts (.fieldLink RX2 66 "GroupSeats" "bookings" "I") (by decide +kernel)) (fun _ h9 => h9) rfl dX2_told_41 ?_
      exact g_iret hx hb hr hlocks (Nat.le_of_ble_eq_true rfl) (Nat.le_of_ble_eq_true rfl) hK hP hD hS dX2_told_44 (by unfold opTold; rw [if_pos (by decide)]; exact ⟨rfl, ⟨a, ho, bk, pl, pn, pm, nm, co, qu, rfl, rfl, hM, hPs, hlc, hLc⟩⟩)
    · refine lv_tableIn (off := 44) (tgt := 45) hx hb dX2_told_1 (by decide) (by decide) rfl (by decide) ?_
      refine lv_aload_n hx hb dX2_told_45 rfl (lv_at hl 0 rfl) ?_
      refine va_get (C := RX2) (T := TX2) (N := 8) (ci := 2) hx hb hts hi_X2 hown hK hP (0) (rfl) rfl 5 (by decide) (hts (.fieldLink RX2 77 "GroupSeats" "waiters" "I") (by decide +kernel)) (fun _ h9 => h9) rfl dX2_told_46 ?_
      exact g_iret hx hb hr hlocks (Nat.le_of_ble_eq_true rfl) (Nat.le_of_ble_eq_true rfl) hK hP hD hS dX2_told_49 (by unfold opTold; rw [if_neg (by decide)]; rw [if_pos (by decide)]; exact ⟨rfl, ⟨a, ho, bk, pl, pn, pm, nm, co, qu, rfl, rfl, hM, hPs, hlc, hLc⟩⟩)
    · refine lv_tableIn (off := 49) (tgt := 50) hx hb dX2_told_1 (by decide) (by decide) rfl (by decide) ?_
      refine lv_aload_n hx hb dX2_told_50 rfl (lv_at hl 0 rfl) ?_
      refine va_get (C := RX2) (T := TX2) (N := 8) (ci := 2) hx hb hts hi_X2 hown hK hP (0) (rfl) rfl 6 (by decide) (hts (.fieldLink RX2 101 "GroupSeats" "mostHeld" "I") (by decide +kernel)) (fun _ h9 => h9) rfl dX2_told_51 ?_
      exact g_iret hx hb hr hlocks (Nat.le_of_ble_eq_true rfl) (Nat.le_of_ble_eq_true rfl) hK hP hD hS dX2_told_54 (by unfold opTold; rw [if_neg (by decide)]; rw [if_neg (by decide)]; rw [if_pos (by decide)]; exact ⟨rfl, ⟨a, ho, bk, pl, pn, pm, nm, co, qu, rfl, rfl, hM, hPs, hlc, hLc⟩⟩)
    · refine lv_tableIn (off := 54) (tgt := 55) hx hb dX2_told_1 (by decide) (by decide) rfl (by decide) ?_
      refine lv_aload_n hx hb dX2_told_55 rfl (lv_at hl 0 rfl) ?_
      refine va_get (C := RX2) (T := TX2) (N := 8) (ci := 2) hx hb hts hi_X2 hown hK hP (0) (rfl) rfl 7 (by decide) (hts (.fieldLink RX2 104 "GroupSeats" "failures" "I") (by decide +kernel)) (fun _ h9 => h9) rfl dX2_told_56 ?_
      exact g_iret hx hb hr hlocks (Nat.le_of_ble_eq_true rfl) (Nat.le_of_ble_eq_true rfl) hK hP hD hS dX2_told_59 (by unfold opTold; rw [if_neg (by decide)]; rw [if_neg (by decide)]; rw [if_neg (by decide)]; rw [if_pos (by decide)]; exact ⟨rfl, ⟨a, ho, bk, pl, pn, pm, nm, co, qu, rfl, rfl, hM, hPs, hlc, hLc⟩⟩)
    · refine lv_tableIn (off := 59) (tgt := 60) hx hb dX2_told_1 (by decide) (by decide) rfl (by decide) ?_
      refine lv_aload_n hx hb dX2_told_60 rfl (lv_at hl 0 rfl) ?_
      refine va_get (C := RX2) (T := TX2) (N := 8) (ci := 2) hx hb hts hi_X2 hown hK hP (0) (rfl) rfl 3 (by decide) (hts (.fieldLink RX2 26 "GroupSeats" "coming" "LGroupSeats$Party;") (by decide +kernel)) (fun _ h9 => h9) rfl dX2_told_61 ?_
      refine va_get (C := RX0) (T := TX0) (N := 4) (ci := 0) hx hb hts hi_X0 hown hK hP (2 * co + 20 + 4) (hW_par hco) rfl 1 (by decide) (hts (.fieldLink RX2 59 "GroupSeats$Party" "listed" "I") (by decide +kernel)) (fun _ h9 => h9) rfl dX2_told_64 ?_
      exact g_iret hx hb hr hlocks (Nat.le_of_ble_eq_true rfl) (Nat.le_of_ble_eq_true rfl) hK hP hD hS dX2_told_67 (by unfold opTold; rw [if_neg (by decide)]; rw [if_neg (by decide)]; rw [if_neg (by decide)]; rw [if_neg (by decide)]; rw [if_pos (by decide), ← hlc]; exact ⟨rfl, ⟨a, ho, bk, pl, pn, pm, nm, co, qu, rfl, rfl, hM, hPs, hlc, hLc⟩⟩)
    · refine lv_tableIn (off := 67) (tgt := 68) hx hb dX2_told_1 (by decide) (by decide) rfl (by decide) ?_
      refine lv_aload_n hx hb dX2_told_68 rfl (lv_at hl 0 rfl) ?_
      refine g_calli (va_runV (As := []) (rest := []) ⟨hx, hb, hml, hown, hts⟩ (h_openRows l D K a z sd ho bk ow pl pn pm nm cn co qu (nI B) (nI q.length) (nI mh) fl _ hz) (cwV 0 hts gX2_told_X2_openRows rfl rfl rfl (by decide +kernel) ⟨(Nat.le_of_ble_eq_true rfl), (Nat.le_of_ble_eq_true rfl)⟩) (g_preV hK hP hD (ci := 2) (q0 := 0) rfl (rfl)) rfl rfl hl.1 rfl (lv_room (Nat.le_of_ble_eq_true rfl)) dX2_told_69 ⟨Nat.zero_le _, Nat.zero_le _⟩) hD hS hA (fun r69 wv H locs hw hP hD hS => ?_)
      obtain ⟨ew, er⟩ := hw
      rw [ew] at hP hD
      subst er
      exact g_iret hx hb hr hlocks (Nat.le_of_ble_eq_true rfl) (Nat.le_of_ble_eq_true rfl) hK hP hD hS dX2_told_72 (by unfold opTold; rw [if_neg (by decide)]; rw [if_neg (by decide)]; rw [if_neg (by decide)]; rw [if_neg (by decide)]; rw [if_neg (by decide)]; rw [if_pos (by decide)]; exact ⟨rfl, ⟨a, ho, bk, pl, pn, pm, nm, co, qu, rfl, rfl, hM, hPs, hlc, hLc⟩⟩)
