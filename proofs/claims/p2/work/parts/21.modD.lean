/-! THE MODEL AS THE SAME VALUE -/
def MW (K : gCl) (m0 : Nat) (S : HS) (w : va_W) : Prop := ∃ (ma : Nat → Nat) (th wl fd : Int32) (op st zs ho ba se lx pe lt le wa ta : Nat → Int32), ma 0 = m0 ∧ w = mW K ma th (nI S.2.2.2.2.2.2.1.length) (nI S.2.2.2.2.1) (nI S.2.2.2.2.2.1.length) (nI S.2.2.2.2.2.2.2.1) S.2.2.2.2.2.2.2.2 wl fd op st zs ho ba se lx S.2.2.2.1 pe lt le wa ta ∧ MS S.1 S.2.1 op st zs se S.2.2.1 ∧ isL lx S.2.2.2.2.2.2.1 ∧ MQr pe lt le S.2.2.2.2.2.1
def RM (K : gCl) (m0 : Nat) (o : Int32 × HS) : Int32 → va_W → Prop := fun r w => r = o.1 ∧ MW K m0 o.2 w
theorem g_le9 {x : Int32} (h : x ≤ 9) : x < 10 := by
  simp only [Int32.le_iff_toInt_le, Int32.lt_iff_toInt_lt, gl_9, gl_10] at h ⊢
  omega
theorem le_pred {x : Int32} {n : Nat} (hn : n < 2 ^ 30) : x ≤ nI n - 1 ↔ x < nI n := by
  rw [Int32.le_iff_toInt_le, Int32.lt_iff_toInt_lt, nI_toInt (by omega), show (1 : Int32) = nI 1 from rfl, pk_sub_toInt hn (by decide)]
  omega
theorem MS_open {z : Nat → Nat} {sd : Nat → Int32} {op st zs se g : Nat → Int32} {ow : Nat → Nat → Int32} {r n : Nat} (h : MS z sd op st zs se ow) (hn : n ≠ 0) {f : Nat → Int32} (h1 : rowOf g r = f) (h2 : ∀ r2, r2 < 10 → r2 ≠ r → rowOf g r2 = rowOf se r2) : MS (va_up z r n) (va_up sd r 0) (upd op r 1) (upd st r 0) (upd zs r (nI n)) g (va_up ow r f) := fun r2 hr2 => by
  by_cases e : r2 = r
  · subst e
    rw [va_up_self, va_up_self, va_up_self]
    exact ⟨by simp [upd, hn], fun _ => ⟨by simp [upd], by simp [upd], h1⟩⟩
  · rw [va_up_ne _ _ e, va_up_ne _ _ e, va_up_ne _ _ e, show upd op r 1 r2 = op r2 by simp [upd, e], show upd st r 0 r2 = st r2 by simp [upd, e], show upd zs r (nI n) r2 = zs r2 by simp [upd, e], h2 r2 hr2 e]
    exact h r2 hr2
theorem MS_shut {z : Nat → Nat} {sd : Nat → Int32} {op st zs se : Nat → Int32} {ow : Nat → Nat → Int32} {r : Nat} (h : MS z sd op st zs se ow) : MS (va_up z r 0) sd (upd op r 0) st zs se ow := fun r2 hr2 => by
  by_cases e : r2 = r
  · subst e
    rw [va_up_self]
    exact ⟨by simp [upd], fun q => absurd rfl q⟩
  · rw [va_up_ne _ _ e, show upd op r 0 r2 = op r2 by simp [upd, e]]
    exact h r2 hr2
theorem MS_strict {z : Nat → Nat} {sd : Nat → Int32} {op st zs se : Nat → Int32} {ow : Nat → Nat → Int32} {r : Nat} {on : Int32} (h : MS z sd op st zs se ow) : MS z (va_up sd r on) op (upd st r on) zs se ow := fun r2 hr2 => by
  obtain ⟨h1, h2⟩ := h r2 hr2
  refine ⟨h1, fun q => ?_⟩
  obtain ⟨a, b, c⟩ := h2 q
  by_cases e : r2 = r
  · subst e; exact ⟨a, by rw [va_up_self]; simp [upd], c⟩
  · exact ⟨a, by rw [va_up_ne _ _ e, show upd st r on r2 = st r2 by simp [upd, e]]; exact b, c⟩
/-- beyond a row's seats nobody sits -/
def TL (z : Nat → Nat) (ow : Nat → Nat → Int32) : Prop := ∀ r, r < 10 → z r ≠ 0 → ∀ j, z r ≤ j → j < 20 → ow r j = -8
theorem freeV_20 {f : Nat → Int32} {x : Int32} {z : Nat} (hz : z ≤ 20) (h : ∀ j, z ≤ j → j < 20 → f j = -8) : freeV f x 20 = freeV f x z := by
  funext j
  unfold freeV
  by_cases h1 : j < z
  · by_cases h2 : f j = x
    · rw [if_pos ⟨by omega, h2⟩, if_pos ⟨h1, h2⟩]
    · rw [if_neg (fun q => h2 q.2), if_neg (fun q => h2 q.2)]
  · rw [if_neg (show ¬ (j < z ∧ f j = x) from fun q => h1 q.1)]
    by_cases h2 : j < 20 ∧ f j = x
    · rw [if_pos h2]; exact (h j (by omega) h2.1).symm
    · rw [if_neg h2]
theorem MS_cancel {z : Nat → Nat} {sd : Nat → Int32} {op st zs se : Nat → Int32} {ow : Nat → Nat → Int32} {x : Int32} (hz : ∀ i, i < 10 → z i ≤ 20) (hT : TL z ow) (h : MS z sd op st zs se ow) : MS z sd op st zs (freeV se x 200) (fo z ow x 10) := fun r hr => by
  obtain ⟨h1, h2⟩ := h r hr
  refine ⟨h1, fun q => ?_⟩
  obtain ⟨a, b, c⟩ := h2 q
  refine ⟨a, b, ?_⟩
  rw [rowOf_freeV hr, c, freeV_20 (hz r hr) (hT r hr q)]
  simp [fo, hr]
theorem OR_cancel {z : Nat → Nat} {ow : Nat → Nat → Int32} {B : Nat} {x : Int32} (h : OR z ow B) : OR z (fo z ow x 10) B := fun r hr hz j hj => by
  simp only [fo, if_pos hr, freeV]
  split
  · exact Or.inl rfl
  · exact h r hr hz j hj
theorem OR_open {z : Nat → Nat} {ow : Nat → Nat → Int32} {B r n : Nat} (h : OR z ow B) : OR (va_up z r n) (va_up ow r (gFill (-8) 20 (ow r))) B := fun r2 hr hz j hj => by
  by_cases e : r2 = r
  · subst e; rw [va_up_self]; exact Or.inl (by simp [gFill, hj])
  · rw [va_up_ne _ _ e] at hz ⊢; exact h r2 hr hz j hj
theorem gFill_row {se : Nat → Int32} {ow : Nat → Int32} {r : Nat} (h : ∀ j, 20 ≤ j → ow j = 0) : gFill (-8) 20 (rowOf se r) = gFill (-8) 20 ow := by
  funext j
  by_cases e : j < 20
  · simp [gFill, e]
  · simp [gFill, e, rowOf, h j (by omega)]
theorem gFill_upd {v : Int32} {f : Nat → Int32} {i : Nat} : upd (gFill v i f) i v = gFill v (i + 1) f := by
  funext j
  by_cases h : j = i
  · subst h; simp [upd, gFill]
  · by_cases h2 : j < i
    · simp [upd, gFill, h, h2, show j < i + 1 by omega]
    · simp [upd, gFill, h, h2, show ¬ j < i + 1 by omega]
def cpL (lx wa : Nat → Int32) (i : Nat) : Nat → Int32 := fun x => if x < i then lx x else wa x
theorem cpL_0 (lx wa : Nat → Int32) : cpL lx wa 0 = wa := by funext x; simp [cpL]
theorem cpL_up {lx wa : Nat → Int32} {i : Nat} : upd (cpL lx wa i) i (lx i) = cpL lx wa (i + 1) := by
  funext x
  by_cases h : x = i
  · subst h; simp [cpL, upd]
  · by_cases h1 : x < i
    · simp [cpL, upd, h, h1, show x < i + 1 by omega]
    · simp [cpL, upd, h, h1, show ¬ x < i + 1 by omega]
def cpQ (wa lt : Nat → Int32) (k i : Nat) : Nat → Int32 := fun x => if 6 * k ≤ x ∧ x < 6 * k + i then wa (x - 6 * k) else lt x
theorem cpQ_0 (wa lt : Nat → Int32) (k : Nat) : cpQ wa lt k 0 = lt := by funext x; simp only [cpQ]; rw [if_neg (by omega)]
theorem cpQ_up {wa lt : Nat → Int32} {k i : Nat} : upd (cpQ wa lt k i) (6 * k + i) (wa i) = cpQ wa lt k (i + 1) := by
  funext x
  by_cases h : x = 6 * k + i
  · subst h; simp only [upd, cpQ, if_true]; rw [if_pos (by omega), show 6 * k + i - 6 * k = i by omega]
  · simp only [upd, cpQ, if_neg h]
    by_cases h1 : 6 * k ≤ x ∧ x < 6 * k + i
    · rw [if_pos h1, if_pos (by omega)]
    · rw [if_neg h1, if_neg (by omega)]
theorem MQr_push {pe lt le wa : Nat → Int32} {q : List Pty} {n : Nat} {L : List Nat} (h : MQr pe lt le q) (hL : isL wa L) (hn1 : 1 ≤ n) (hn2 : n ≤ 60) : MQr (upd pe q.length (nI n)) (cpQ wa lt q.length L.length) (upd le q.length (nI L.length)) (q ++ [(n, L)]) := fun i P hi => by
  rcases Nat.lt_or_ge i q.length with c | c
  · rw [List.getElem?_append_left c] at hi
    obtain ⟨h1, h2, h3, h4⟩ := h i P hi
    have := h4.1
    refine ⟨?_, ?_, fun t ht => ?_, h4⟩
    · rw [show upd pe q.length (nI n) i = pe i by simp [upd, show i ≠ q.length by omega]]; exact h1
    · rw [show upd le q.length (nI L.length) i = le i by simp [upd, show i ≠ q.length by omega]]; exact h2
    · simp only [cpQ]; rw [if_neg (by omega)]; exact h3 t ht
  · have hl := (List.getElem?_eq_some_iff.mp hi).1
    rw [List.length_append, List.length_singleton] at hl
    have e : i = q.length := by omega
    rw [e, List.getElem?_append_right (Nat.le_refl _), Nat.sub_self] at hi
    cases hi
    rw [e]
    refine ⟨by simp [upd], by simp [upd], fun t ht => ?_, hL.1, hL.2.2, hn1, hn2⟩
    have ht : t < L.length := ht
    simp only [cpQ]; rw [if_pos (by omega), show 6 * q.length + t - 6 * q.length = t by omega]
    exact hL.2.1 t ht
theorem isL_cpL {lx wa : Nat → Int32} {L : List Nat} (h : isL lx L) : isL (cpL lx wa L.length) L := ⟨h.1, fun i hi => by simp only [cpL]; rw [if_pos hi]; exact h.2.1 i hi, h.2.2⟩
set_option maxHeartbeats 4000000 in
set_option maxRecDepth 100000 in
theorem lp_free {p : Program} {l : Launch} {e : Env} {s : State} {m : MethodId} {args : Array Value} {below : List Frame} {meth : Method} {c : Code} {A : Nat → Prop} {D : va_G} {K : gCl} {ws0 : va_W} {rm : Room} {ma : Nat → Nat} {op st zs ho ba se lx cn pe lt le wa ta : Nat → Int32} {th ll B wt mh fl wl fd : Int32} {r zz : Nat} (hr10 : r < 10) (hzz : zz ≤ 20) (hsz : zs r = nI zz)
    (I : gIn p s m meth c A yX3_free wsX3_free cX3_free 4 (some .int) args D vwCl (gT K) ws0)  :
    ∀ (k : Nat) (i : Nat) (H : Heap) (locs : List Loc), i + k = zz → va_P D vwCl (mW K ma th ll B wt mh fl wl fd op st zs ho ba se lx cn pe lt le wa ta) H → va_D A (mW K ma th ll B wt mh fl wl fd op st zs ho ba se lx cn pe lt le wa ta) → va_S A s.heap H locs →
    ∀ (ls : Array Slot), lv_has ls 4 [(3, .int (nI i)), (2, .int (nI (cntV (rowOf se r) (-8) i))), (0, .ref (ma 0)), (1, .int (nI r))] →
    W p l e rm s m args below meth c H locs 0 0 (MQ below (va_Qi (fun r1 w1 => w1 = mW K ma th ll B wt mh fl wl fd op st zs ho ba se lx cn pe lt le wa ta ∧ r1 = nI (cntV (rowOf se r) (-8) zz)) (gB D vwCl (gT K) A) A) args s 0 0 A) (F0 m 4 ls []) := by
  have I0 := I
  obtain ⟨hx, hb, hr, hml, hown, hts, hlocks, hnm, hA, hK, -, -, -⟩ := I
  have hown : s.vm.findClass RX3 = some m.cls := hown
  have hi_X3 : ∀ w ∈ u_ws RX3 TX3 21, w ∈ wsX3_free := by decide +kernel
  intro k
  induction k with
  | zero =>
    intro i H locs hi hP hD hS ls hl
    have hiz : i = zz := by omega
    subst hiz
    refine lv_iload_n hx hb dX3_free_4 rfl (lv_at hl 0 rfl) ?_
    refine lv_aload_n hx hb dX3_free_5 rfl (lv_at hl 2 rfl) ?_
    refine va_get (C := RX3) (T := TX3) (N := 21) (ci := 3) hx hb hts hi_X3 hown hK hP (0) (rfl) rfl 3 (by decide) (hts (.fieldLink RX3 16 "GroupSeatsModel" "size" "[I") (by decide +kernel)) (fun _ h9 => h9) rfl dX3_free_6 ?_
    refine lv_iload_n hx hb dX3_free_9 rfl (lv_at hl 3 rfl) ?_
    refine va_iald hx hb hK hP (3) 0 (rfl) rfl (vp_in_nI (show r < 10 by omega) (by decide)) dX3_free_10 ?_
    rw [nI_clamp (n := r) (by omega), hsz]
    refine lv_icmp_ge (tgt := 44) hx hb dX3_free_11 (by decide) (fun c11 => ?_) (fun c11 => ?_)
    · refine lv_iload_n hx hb dX3_free_44 rfl (lv_at hl 1 rfl) ?_
      exact g_iret hx hb hr hlocks (Nat.le_of_ble_eq_true rfl) (Nat.le_of_ble_eq_true rfl) hK hP hD hS dX3_free_45 (⟨rfl, rfl⟩)
    · exact absurd (nI_le (by omega) (by omega)) c11
  | succ k ih =>
    intro i H locs hi hP hD hS ls hl
    refine lv_iload_n hx hb dX3_free_4 rfl (lv_at hl 0 rfl) ?_
    refine lv_aload_n hx hb dX3_free_5 rfl (lv_at hl 2 rfl) ?_
    refine va_get (C := RX3) (T := TX3) (N := 21) (ci := 3) hx hb hts hi_X3 hown hK hP (0) (rfl) rfl 3 (by decide) (hts (.fieldLink RX3 16 "GroupSeatsModel" "size" "[I") (by decide +kernel)) (fun _ h9 => h9) rfl dX3_free_6 ?_
    refine lv_iload_n hx hb dX3_free_9 rfl (lv_at hl 3 rfl) ?_
    refine va_iald hx hb hK hP (3) 0 (rfl) rfl (vp_in_nI (show r < 10 by omega) (by decide)) dX3_free_10 ?_
    rw [nI_clamp (n := r) (by omega), hsz]
    refine lv_icmp_ge (tgt := 44) hx hb dX3_free_11 (by decide) (fun c11 => ?_) (fun c11 => ?_)
    · exact absurd c11 (nI_ge (by omega) (by omega))
    · refine lv_iload_n hx hb dX3_free_14 rfl (lv_at hl 1 rfl) ?_
      refine lv_aload_n hx hb dX3_free_15 rfl (lv_at hl 2 rfl) ?_
      refine va_get (C := RX3) (T := TX3) (N := 21) (ci := 3) hx hb hts hi_X3 hown hK hP (0) (rfl) rfl 6 (by decide) (hts (.fieldLink RX3 26 "GroupSeatsModel" "seats" "[I") (by decide +kernel)) (fun _ h9 => h9) rfl dX3_free_16 ?_
      refine lv_bipush (v := 20) hx hb dX3_free_19 (by decide) ?_
      refine lv_iload_n hx hb dX3_free_21 rfl (lv_at hl 3 rfl) ?_
      refine lv_imul hx hb dX3_free_22 ?_
      refine lv_iload_n hx hb dX3_free_23 rfl (lv_at hl 0 rfl) ?_
      refine lv_iadd hx hb dX3_free_24 ?_
      refine va_iald hx hb hK hP (6) 0 (rfl) rfl (in_20 hr10 (show i < 20 by omega)) dX3_free_25 ?_
      refine lv_bipush (v := -8) hx hb dX3_free_26 (by decide) ?_
      refine lv_icmp_ne (tgt := 35) hx hb dX3_free_28 (by decide) (fun c28 => ?_) (fun c28 => ?_)
      · refine lv_iconst (v := 0) hx hb dX3_free_35 (by decide) ?_
        refine lv_iadd hx hb dX3_free_36 ?_
        refine lv_istore_n (lv' := [(2, .int _), (3, .int _), (0, .ref _), (1, .int _)]) hx hb dX3_free_37 rfl hl (by decide) rfl (fun ls hl => ?_)
        refine lv_iinc (lv' := [(3, .int _), (2, .int _), (0, .ref _), (1, .int _)]) hx hb dX3_free_38 hl (k := 1) rfl rfl (by decide) rfl (fun ls hl => ?_)
        refine lv_goto (tgt := 4) hx hb dX3_free_41 (by decide) ?_
        rw [ix_20 hr10 (by omega), ← rowOf_in (g := se) (r := r) (show i < 20 by omega)] at c28
        rw [g_inc] at hl
        have e1 : cntV (rowOf se r) (-8) (i + 1) = cntV (rowOf se r) (-8) i := by simp [cntV, c28]
        rw [Int32.add_zero, ← e1] at hl
        exact ih (i + 1) H locs (by omega) hP hD hS ls (lv_sub hl [0, 1, 2, 3] rfl)
      · refine lv_iconst (v := 1) hx hb dX3_free_31 (by decide) ?_
        refine lv_goto (tgt := 36) hx hb dX3_free_32 (by decide) ?_
        refine lv_iadd hx hb dX3_free_36 ?_
        refine lv_istore_n (lv' := [(2, .int _), (3, .int _), (0, .ref _), (1, .int _)]) hx hb dX3_free_37 rfl hl (by decide) rfl (fun ls hl => ?_)
        refine lv_iinc (lv' := [(3, .int _), (2, .int _), (0, .ref _), (1, .int _)]) hx hb dX3_free_38 hl (k := 1) rfl rfl (by decide) rfl (fun ls hl => ?_)
        refine lv_goto (tgt := 4) hx hb dX3_free_41 (by decide) ?_
        rw [ix_20 hr10 (by omega), ← rowOf_in (g := se) (r := r) (show i < 20 by omega)] at c28
        rw [g_inc] at hl
        have e1 : cntV (rowOf se r) (-8) (i + 1) = cntV (rowOf se r) (-8) i + 1 := by simp [cntV, c28]
        rw [nI_1, ← e1] at hl
        exact ih (i + 1) H locs (by omega) hP hD hS ls (lv_sub hl [0, 1, 2, 3] rfl)
set_option maxHeartbeats 4000000 in
set_option maxRecDepth 100000 in
/-- the model: free -/
theorem m_free (l : Launch) (D : va_G) (K : gCl) (ma : Nat → Nat) (op st zs ho ba se lx cn pe lt le wa ta : Nat → Int32) (th ll B wt mh fl wl fd : Int32) (r zz : Nat) (sz : Nat) (hr10 : r < 10) (hzz : zz ≤ 20) (hsz : zs r = nI zz) : gMi l yX3_free wsX3_free ({ frames := 0, cells := 0, slots := 0, locals := 0 } : Room) D vwCl (gT K) [.ref (ma 0), .int (nI r)] (mW K ma th ll B wt mh fl wl fd op st zs ho ba se lx cn pe lt le wa ta) sz (fun r1 w1 => w1 = mW K ma th ll B wt mh fl wl fd op st zs ho ba se lx cn pe lt le wa ta ∧ r1 = nI (cntV (rowOf se r) (-8) zz)) 0 0 := by
  refine g_of (cc := cX3_free) (maxL := 4) (ret := (some .int)) (Qc := fun A => va_Qi (fun r1 w1 => w1 = mW K ma th ll B wt mh fl wl fd op st zs ho ba se lx cn pe lt le wa ta ∧ r1 = nI (cntV (rowOf se r) (-8) zz)) (gB D vwCl (gT K) A) A) (by decide) rfl (Nat.le_of_ble_eq_true rfl) ?_
  intro p e s m below meth c A ls I hl
  have I0 := I
  obtain ⟨hx, hb, hr, hml, hown, hts, hlocks, hnm, hA, hK, hP, hD, hS⟩ := I
  have hown : s.vm.findClass RX3 = some m.cls := hown
  have hl : lv_has ls 4 [(0, .ref (ma 0)), (1, .int (nI r))] := hl
  have hi_X3 : ∀ w ∈ u_ws RX3 TX3 21, w ∈ wsX3_free := by decide +kernel
  refine lv_iconst (v := 0) hx hb dX3_free_0 (by decide) ?_
  refine lv_istore_n (lv' := [(2, .int _), (0, .ref _), (1, .int _)]) hx hb dX3_free_1 rfl hl (by decide) rfl (fun ls hl => ?_)
  refine lv_iconst (v := 0) hx hb dX3_free_2 (by decide) ?_
  refine lv_istore_n (lv' := [(3, .int _), (2, .int _), (0, .ref _), (1, .int _)]) hx hb dX3_free_3 rfl hl (by decide) rfl (fun ls hl => ?_)
  exact lp_free hr10 hzz hsz I0 zz 0 _ _ (by omega) hP hD hS ls (lv_sub hl [0, 1, 2, 3] rfl)
set_option maxHeartbeats 4000000 in
set_option maxRecDepth 100000 in
theorem m_shut (l : Launch) (D : va_G) (K : gCl) (ma : Nat → Nat) (op st zs ho ba se lx cn pe lt le wa ta : Nat → Int32) (th wl fd : Int32) (z : Nat → Nat) (sd : Nat → Int32) (ow : Nat → Nat → Int32) (B mh : Nat) (fl : Int32) (q : List Pty) (li : List Nat) (x : Int32) (sz : Nat) (hz : ∀ i, i < 10 → z i ≤ 20) (hB40 : B ≤ 40) (hq8 : q.length ≤ 8) (hmh6 : mh ≤ 6) (hOR : OR z ow B) (hMS : MS z sd op st zs se ow) (hLc : isL lx li) (hQ : MQr pe lt le q) : gMi l yX3_shut wsX3_shut ({ frames := 7, cells := 0, slots := 0, locals := 260 } : Room) D vwCl (gT K) [.ref (ma 0), .int x] (mW K ma th (nI li.length) (nI B) (nI q.length) (nI mh) fl wl fd op st zs ho ba se lx cn pe lt le wa ta) sz (RM K (ma 0) (opShut z sd ow cn B q li mh fl x)) 0 0 := by
  refine g_of (cc := cX3_shut) (maxL := 2) (ret := (some .int)) (Qc := fun A => va_Qi (RM K (ma 0) (opShut z sd ow cn B q li mh fl x)) (gB D vwCl (gT K) A) A) (by decide) rfl (Nat.le_of_ble_eq_true rfl) ?_
  intro p e s m below meth c A ls I hl
  have I0 := I
  obtain ⟨hx, hb, hr, hml, hown, hts, hlocks, hnm, hA, hK, hP, hD, hS⟩ := I
  have hown : s.vm.findClass RX3 = some m.cls := hown
  have hl : lv_has ls 2 [(0, .ref (ma 0)), (1, .int x)] := hl
  have hi_X3 : ∀ w ∈ u_ws RX3 TX3 21, w ∈ wsX3_shut := by decide +kernel
  refine lv_aload_n hx hb dX3_shut_0 rfl (lv_at hl 0 rfl) ?_
  refine lv_iconst (v := 0) hx hb dX3_shut_1 (by decide) ?_
  refine va_put (C := RX3) (T := TX3) (N := 21) (ci := 3) (ty := .int) hx hb hts hi_X3 tyX3 tyX3_ok nmX3 hown hK hP hD hS (0) (rfl) rfl 0 (by decide) (hts (.fieldLink RX3 50 "GroupSeatsModel" "thrown" "I") (by decide +kernel)) (fun _ h9 => h9) rfl (by decide +kernel) rfl rfl (Nat.le_of_ble_eq_true rfl) dX3_shut_2 (fun H locs hP hD hS => ?_)
  have hP : va_P D vwCl (mW K ma 0 (nI li.length) (nI B) (nI q.length) (nI mh) fl wl fd op st zs ho ba se lx cn pe lt le wa ta) H := hP
  have hD : va_D A (mW K ma 0 (nI li.length) (nI B) (nI q.length) (nI mh) fl wl fd op st zs ho ba se lx cn pe lt le wa ta) := hD
  refine lv_iload_n hx hb dX3_shut_5 rfl (lv_at hl 1 rfl) ?_
  refine lv_iconst (v := 0) hx hb dX3_shut_6 (by decide) ?_
  refine lv_bipush (v := 9) hx hb dX3_shut_7 (by decide) ?_
  refine g_calli (va_runS (As := [.int _, .int _, .int _]) (rest := []) ⟨hx, hb, hml, hown, hts⟩ (c_in l D K _ _ _ _ _) (va_cwS 3 hts gX3_shut_X3_in rfl rfl rfl (by decide +kernel) ⟨(Nat.le_of_ble_eq_true rfl), (Nat.le_of_ble_eq_true rfl)⟩) (g_preS hK hP hD) rfl rfl hl.1 rfl (lv_room (Nat.le_of_ble_eq_true rfl)) dX3_shut_9 ⟨Nat.zero_le _, Nat.zero_le _⟩) hD hS hA (fun r9 wv H locs hw hP hD hS => ?_)
  obtain ⟨ew, e9⟩ := hw
  rw [ew] at hP hD
  refine lv_if_ne (tgt := 17) hx hb dX3_shut_12 (by decide) (fun c12 => ?_) (fun c12 => ?_)
  · simp only [e9, Classical.not_not] at c12
    obtain ⟨r, hr10, rfl⟩ := g_ix (n := 10) (M := 10) rfl ⟨c12.1, g_le9 c12.2⟩
    have hrz := hz r hr10
    have hxr : ixN (nI r) = r := ixN_nI (by omega)
    have hmr := hMS r hr10
    refine lv_aload_n hx hb dX3_shut_17 rfl (lv_at hl 0 rfl) ?_
    refine va_get (C := RX3) (T := TX3) (N := 21) (ci := 3) hx hb hts hi_X3 hown hK hP (0) (rfl) rfl 1 (by decide) (hts (.fieldLink RX3 7 "GroupSeatsModel" "isOpen" "[Z") (by decide +kernel)) (fun _ h9 => h9) rfl dX3_shut_18 ?_
    refine lv_iload_n hx hb dX3_shut_21 rfl (lv_at hl 1 rfl) ?_
    refine va_zald hx hb hK hP (1) 1 (rfl) rfl (vp_in_nI (show r < 10 by omega) (by decide)) dX3_shut_22 ?_
    refine lv_if_eq (tgt := 40) hx hb dX3_shut_23 (by decide) (fun c23 => ?_) (fun c23 => ?_)
    · rw [nI_clamp (n := r) (by omega), hmr.1] at c23
      have hzr : z r = 0 := Classical.not_not.mp (fun q => by rw [if_neg q] at c23; exact absurd c23 (by decide))
      refine lv_bipush (v := -2) hx hb dX3_shut_40 (by decide) ?_
      exact g_iret hx hb hr hlocks (Nat.le_of_ble_eq_true rfl) (Nat.le_of_ble_eq_true rfl) hK hP hD hS dX3_shut_42 (by unfold opShut; rw [if_pos (inRow_nI hr10), hxr, if_neg (fun h => h.1 hzr)]; exact ⟨rfl, ⟨ma, 0, wl, fd, op, st, zs, ho, ba, se, lx, pe, lt, le, wa, ta, rfl, rfl, hMS, hLc, hQ⟩⟩)
    · rw [nI_clamp (n := r) (by omega), hmr.1] at c23
      have hzr : z r ≠ 0 := fun q => c23 (by rw [if_pos q])
      have hzs := hmr.2 hzr
      refine lv_aload_n hx hb dX3_shut_26 rfl (lv_at hl 0 rfl) ?_
      refine lv_iload_n hx hb dX3_shut_27 rfl (lv_at hl 1 rfl) ?_
      refine g_calli (va_runV (As := [.int _]) (rest := []) ⟨hx, hb, hml, hown, hts⟩ (m_free l D K ma op st zs ho ba se lx cn pe lt le wa ta 0 (nI li.length) (nI B) (nI q.length) (nI mh) fl wl fd r (z r) _ hr10 hrz hzs.1) (cwV 1 hts gX3_shut_X3_free rfl rfl rfl (by decide +kernel) ⟨(Nat.le_of_ble_eq_true rfl), (Nat.le_of_ble_eq_true rfl)⟩) (g_preV hK hP hD (ci := 3) (q0 := 0) rfl (rfl)) rfl rfl hl.1 rfl (lv_room (Nat.le_of_ble_eq_true rfl)) dX3_shut_28 ⟨Nat.zero_le _, Nat.zero_le _⟩) hD hS hA (fun r28 wv H locs hw hP hD hS => ?_)
      obtain ⟨ew, er⟩ := hw
      rw [ew] at hP hD
      rw [hzs.2.2] at er
      rw [er]
      refine lv_aload_n hx hb dX3_shut_31 rfl (lv_at hl 0 rfl) ?_
      refine va_get (C := RX3) (T := TX3) (N := 21) (ci := 3) hx hb hts hi_X3 hown hK hP (0) (rfl) rfl 3 (by decide) (hts (.fieldLink RX3 16 "GroupSeatsModel" "size" "[I") (by decide +kernel)) (fun _ h9 => h9) rfl dX3_shut_32 ?_
      refine lv_iload_n hx hb dX3_shut_35 rfl (lv_at hl 1 rfl) ?_
      refine va_iald hx hb hK hP (3) 0 (rfl) rfl (vp_in_nI (show r < 10 by omega) (by decide)) dX3_shut_36 ?_
      rw [nI_clamp (n := r) (by omega), hzs.1]
      refine lv_icmp_ge (tgt := 43) hx hb dX3_shut_37 (by decide) (fun c37 => ?_) (fun c37 => ?_)
      · refine lv_aload_n hx hb dX3_shut_43 rfl (lv_at hl 0 rfl) ?_
        refine va_get (C := RX3) (T := TX3) (N := 21) (ci := 3) hx hb hts hi_X3 hown hK hP (0) (rfl) rfl 1 (by decide) (hts (.fieldLink RX3 7 "GroupSeatsModel" "isOpen" "[Z") (by decide +kernel)) (fun _ h9 => h9) rfl dX3_shut_44 ?_
        refine lv_iload_n hx hb dX3_shut_47 rfl (lv_at hl 1 rfl) ?_
        refine lv_iconst (v := 0) hx hb dX3_shut_48 (by decide) ?_
        refine va_zast hx hb hK hP hD hS (1) 1 (rfl) rfl (vp_in_nI (show r < 10 by omega) (by decide)) dX3_shut_49 (fun H locs hP hD hS => ?_)
        have hP : va_P D vwCl (mW K ma 0 (nI li.length) (nI B) (nI q.length) (nI mh) fl wl fd (upd op (nI r).toNatClampNeg (vp_nar .boolean 0)) st zs ho ba se lx cn pe lt le wa ta) H := hP
        have hD : va_D A (mW K ma 0 (nI li.length) (nI B) (nI q.length) (nI mh) fl wl fd (upd op (nI r).toNatClampNeg (vp_nar .boolean 0)) st zs ho ba se lx cn pe lt le wa ta) := hD
        rw [nI_clamp (n := r) (by omega), show vp_nar .boolean 0 = 0 from rfl] at hP hD
        refine lv_aload_n hx hb dX3_shut_50 rfl (lv_at hl 0 rfl) ?_
        refine va_get (C := RX3) (T := TX3) (N := 21) (ci := 3) hx hb hts hi_X3 hown hK hP (0) (rfl) rfl 3 (by decide) (hts (.fieldLink RX3 16 "GroupSeatsModel" "size" "[I") (by decide +kernel)) (fun _ h9 => h9) rfl dX3_shut_51 ?_
        refine lv_iload_n hx hb dX3_shut_54 rfl (lv_at hl 1 rfl) ?_
        refine va_iald hx hb hK hP (3) 0 (rfl) rfl (vp_in_nI (show r < 10 by omega) (by decide)) dX3_shut_55 ?_
        rw [nI_clamp (n := r) (by omega), hzs.1]
        exact g_iret hx hb hr hlocks (Nat.le_of_ble_eq_true rfl) (Nat.le_of_ble_eq_true rfl) hK hP hD hS dX3_shut_56 (by have hcl := cntV_le (ow r) (-8) (z r); have hc2 := (nI_leI (by omega) (by omega)).mp c37; unfold opShut; rw [if_pos (inRow_nI hr10), hxr, if_pos ⟨hzr, by omega⟩]; exact ⟨rfl, ma, 0, wl, fd, _, st, zs, ho, ba, se, lx, pe, lt, le, wa, ta, rfl, rfl, MS_shut hMS, hLc, hQ⟩)
      · refine lv_bipush (v := -2) hx hb dX3_shut_40 (by decide) ?_
        exact g_iret hx hb hr hlocks (Nat.le_of_ble_eq_true rfl) (Nat.le_of_ble_eq_true rfl) hK hP hD hS dX3_shut_42 (by unfold opShut; rw [if_pos (inRow_nI hr10), hxr, if_neg (fun h => c37 (by rw [h.2]; exact nI_le (Nat.le_refl _) (by omega)))]; exact ⟨rfl, ⟨ma, 0, wl, fd, op, st, zs, ho, ba, se, lx, pe, lt, le, wa, ta, rfl, rfl, hMS, hLc, hQ⟩⟩)
  · simp only [e9, Classical.not_not] at c12
    refine lv_iconst (v := -1) hx hb dX3_shut_15 (by decide) ?_
    exact g_iret hx hb hr hlocks (Nat.le_of_ble_eq_true rfl) (Nat.le_of_ble_eq_true rfl) hK hP hD hS dX3_shut_16 (by unfold opShut; rw [if_neg (fun h => by simp only [inRow, Int32.le_iff_toInt_le, Int32.lt_iff_toInt_lt, gl_m1, gl_0, gl_1, gl_2, gl_3, gl_5, gl_6, gl_8, gl_9, gl_10, gl_11, gl_20, gl_40, gl_60] at h c12; omega)]; exact ⟨rfl, ⟨ma, 0, wl, fd, op, st, zs, ho, ba, se, lx, pe, lt, le, wa, ta, rfl, rfl, hMS, hLc, hQ⟩⟩)
set_option maxHeartbeats 4000000 in
set_option maxRecDepth 100000 in
theorem m_strict (l : Launch) (D : va_G) (K : gCl) (ma : Nat → Nat) (op st zs ho ba se lx cn pe lt le wa ta : Nat → Int32) (th wl fd : Int32) (z : Nat → Nat) (sd : Nat → Int32) (ow : Nat → Nat → Int32) (B mh : Nat) (fl : Int32) (q : List Pty) (li : List Nat) (x on : Int32) (sz : Nat) (hz : ∀ i, i < 10 → z i ≤ 20) (hB40 : B ≤ 40) (hq8 : q.length ≤ 8) (hmh6 : mh ≤ 6) (hOR : OR z ow B) (hMS : MS z sd op st zs se ow) (hLc : isL lx li) (hQ : MQr pe lt le q) (hon : on = 0 ∨ on = 1) : gMi l yX3_strict wsX3_strict ({ frames := 7, cells := 0, slots := 0, locals := 260 } : Room) D vwCl (gT K) [.ref (ma 0), .int x, .int on] (mW K ma th (nI li.length) (nI B) (nI q.length) (nI mh) fl wl fd op st zs ho ba se lx cn pe lt le wa ta) sz (RM K (ma 0) (opStrict z sd ow cn B q li mh fl x on)) 0 0 := by
  refine g_of (cc := cX3_strict) (maxL := 4) (ret := (some .int)) (Qc := fun A => va_Qi (RM K (ma 0) (opStrict z sd ow cn B q li mh fl x on)) (gB D vwCl (gT K) A) A) (by decide) rfl (Nat.le_of_ble_eq_true rfl) ?_
  intro p e s m below meth c A ls I hl
  have I0 := I
  obtain ⟨hx, hb, hr, hml, hown, hts, hlocks, hnm, hA, hK, hP, hD, hS⟩ := I
  have hown : s.vm.findClass RX3 = some m.cls := hown
  have hl : lv_has ls 4 [(0, .ref (ma 0)), (1, .int x), (2, .int on)] := hl
  have hi_X3 : ∀ w ∈ u_ws RX3 TX3 21, w ∈ wsX3_strict := by decide +kernel
  refine lv_aload_n hx hb dX3_strict_0 rfl (lv_at hl 0 rfl) ?_
  refine lv_iconst (v := 0) hx hb dX3_strict_1 (by decide) ?_
  refine va_put (C := RX3) (T := TX3) (N := 21) (ci := 3) (ty := .int) hx hb hts hi_X3 tyX3 tyX3_ok nmX3 hown hK hP hD hS (0) (rfl) rfl 0 (by decide) (hts (.fieldLink RX3 50 "GroupSeatsModel" "thrown" "I") (by decide +kernel)) (fun _ h9 => h9) rfl (by decide +kernel) rfl rfl (Nat.le_of_ble_eq_true rfl) dX3_strict_2 (fun H locs hP hD hS => ?_)
  have hP : va_P D vwCl (mW K ma 0 (nI li.length) (nI B) (nI q.length) (nI mh) fl wl fd op st zs ho ba se lx cn pe lt le wa ta) H := hP
  have hD : va_D A (mW K ma 0 (nI li.length) (nI B) (nI q.length) (nI mh) fl wl fd op st zs ho ba se lx cn pe lt le wa ta) := hD
  refine lv_iload_n hx hb dX3_strict_5 rfl (lv_at hl 1 rfl) ?_
  refine lv_iconst (v := 0) hx hb dX3_strict_6 (by decide) ?_
  refine lv_bipush (v := 9) hx hb dX3_strict_7 (by decide) ?_
  refine g_calli (va_runS (As := [.int _, .int _, .int _]) (rest := []) ⟨hx, hb, hml, hown, hts⟩ (c_in l D K _ _ _ _ _) (va_cwS 3 hts gX3_strict_X3_in rfl rfl rfl (by decide +kernel) ⟨(Nat.le_of_ble_eq_true rfl), (Nat.le_of_ble_eq_true rfl)⟩) (g_preS hK hP hD) rfl rfl hl.1 rfl (lv_room (Nat.le_of_ble_eq_true rfl)) dX3_strict_9 ⟨Nat.zero_le _, Nat.zero_le _⟩) hD hS hA (fun r9 wv H locs hw hP hD hS => ?_)
  obtain ⟨ew, e9⟩ := hw
  rw [ew] at hP hD
  refine lv_if_ne (tgt := 17) hx hb dX3_strict_12 (by decide) (fun c12 => ?_) (fun c12 => ?_)
  · simp only [e9, Classical.not_not] at c12
    obtain ⟨r, hr10, rfl⟩ := g_ix (n := 10) (M := 10) rfl ⟨c12.1, g_le9 c12.2⟩
    have hrz := hz r hr10
    have hxr : ixN (nI r) = r := ixN_nI (by omega)
    have hmr := hMS r hr10
    refine lv_aload_n hx hb dX3_strict_17 rfl (lv_at hl 0 rfl) ?_
    refine va_get (C := RX3) (T := TX3) (N := 21) (ci := 3) hx hb hts hi_X3 hown hK hP (0) (rfl) rfl 1 (by decide) (hts (.fieldLink RX3 7 "GroupSeatsModel" "isOpen" "[Z") (by decide +kernel)) (fun _ h9 => h9) rfl dX3_strict_18 ?_
    refine lv_iload_n hx hb dX3_strict_21 rfl (lv_at hl 1 rfl) ?_
    refine va_zald hx hb hK hP (1) 1 (rfl) rfl (vp_in_nI (show r < 10 by omega) (by decide)) dX3_strict_22 ?_
    refine lv_if_ne (tgt := 29) hx hb dX3_strict_23 (by decide) (fun c23 => ?_) (fun c23 => ?_)
    · rw [nI_clamp (n := r) (by omega), hmr.1] at c23
      have hzr : z r ≠ 0 := fun q => c23 (by rw [if_pos q])
      have hzs := hmr.2 hzr
      refine lv_aload_n hx hb dX3_strict_29 rfl (lv_at hl 0 rfl) ?_
      refine va_get (C := RX3) (T := TX3) (N := 21) (ci := 3) hx hb hts hi_X3 hown hK hP (0) (rfl) rfl 2 (by decide) (hts (.fieldLink RX3 13 "GroupSeatsModel" "isStrict" "[Z") (by decide +kernel)) (fun _ h9 => h9) rfl dX3_strict_30 ?_
      refine lv_iload_n hx hb dX3_strict_33 rfl (lv_at hl 1 rfl) ?_
      refine va_zald hx hb hK hP (2) 1 (rfl) rfl (vp_in_nI (show r < 10 by omega) (by decide)) dX3_strict_34 ?_
      refine lv_if_eq (tgt := 42) hx hb dX3_strict_35 (by decide) (fun c35 => ?_) (fun c35 => ?_)
      · refine lv_iconst (v := 0) hx hb dX3_strict_42 (by decide) ?_
        refine lv_istore_n (lv' := [(3, .int _), (0, .ref _), (1, .int _), (2, .int _)]) hx hb dX3_strict_43 rfl hl (by decide) rfl (fun ls hl => ?_)
        refine lv_aload_n hx hb dX3_strict_44 rfl (lv_at hl 1 rfl) ?_
        refine va_get (C := RX3) (T := TX3) (N := 21) (ci := 3) hx hb hts hi_X3 hown hK hP (0) (rfl) rfl 2 (by decide) (hts (.fieldLink RX3 13 "GroupSeatsModel" "isStrict" "[Z") (by decide +kernel)) (fun _ h9 => h9) rfl dX3_strict_45 ?_
        refine lv_iload_n hx hb dX3_strict_48 rfl (lv_at hl 2 rfl) ?_
        refine lv_iload_n hx hb dX3_strict_49 rfl (lv_at hl 3 rfl) ?_
        refine va_zast hx hb hK hP hD hS (2) 1 (rfl) rfl (vp_in_nI (show r < 10 by omega) (by decide)) dX3_strict_50 (fun H locs hP hD hS => ?_)
        have hP : va_P D vwCl (mW K ma 0 (nI li.length) (nI B) (nI q.length) (nI mh) fl wl fd op (upd st (nI r).toNatClampNeg (vp_nar .boolean on)) zs ho ba se lx cn pe lt le wa ta) H := hP
        have hD : va_D A (mW K ma 0 (nI li.length) (nI B) (nI q.length) (nI mh) fl wl fd op (upd st (nI r).toNatClampNeg (vp_nar .boolean on)) zs ho ba se lx cn pe lt le wa ta) := hD
        rw [nI_clamp (n := r) (by omega), show vp_nar .boolean on = on from by rcases hon with rfl | rfl <;> rfl] at hP hD
        refine lv_iload_n hx hb dX3_strict_51 rfl (lv_at hl 0 rfl) ?_
        exact g_iret hx hb hr hlocks (Nat.le_of_ble_eq_true rfl) (Nat.le_of_ble_eq_true rfl) hK hP hD hS dX3_strict_52 (by rw [nI_clamp (n := r) (by omega), hzs.2.1] at c35; unfold opStrict; rw [if_pos (inRow_nI hr10), hxr, if_neg hzr, if_pos c35]; exact ⟨rfl, ma, 0, wl, fd, op, _, zs, ho, ba, se, lx, pe, lt, le, wa, ta, rfl, rfl, MS_strict hMS, hLc, hQ⟩)
      · refine lv_iconst (v := 1) hx hb dX3_strict_38 (by decide) ?_
        refine lv_goto (tgt := 43) hx hb dX3_strict_39 (by decide) ?_
        refine lv_istore_n (lv' := [(3, .int _), (0, .ref _), (1, .int _), (2, .int _)]) hx hb dX3_strict_43 rfl hl (by decide) rfl (fun ls hl => ?_)
        refine lv_aload_n hx hb dX3_strict_44 rfl (lv_at hl 1 rfl) ?_
        refine va_get (C := RX3) (T := TX3) (N := 21) (ci := 3) hx hb hts hi_X3 hown hK hP (0) (rfl) rfl 2 (by decide) (hts (.fieldLink RX3 13 "GroupSeatsModel" "isStrict" "[Z") (by decide +kernel)) (fun _ h9 => h9) rfl dX3_strict_45 ?_
        refine lv_iload_n hx hb dX3_strict_48 rfl (lv_at hl 2 rfl) ?_
        refine lv_iload_n hx hb dX3_strict_49 rfl (lv_at hl 3 rfl) ?_
        refine va_zast hx hb hK hP hD hS (2) 1 (rfl) rfl (vp_in_nI (show r < 10 by omega) (by decide)) dX3_strict_50 (fun H locs hP hD hS => ?_)
        have hP : va_P D vwCl (mW K ma 0 (nI li.length) (nI B) (nI q.length) (nI mh) fl wl fd op (upd st (nI r).toNatClampNeg (vp_nar .boolean on)) zs ho ba se lx cn pe lt le wa ta) H := hP
        have hD : va_D A (mW K ma 0 (nI li.length) (nI B) (nI q.length) (nI mh) fl wl fd op (upd st (nI r).toNatClampNeg (vp_nar .boolean on)) zs ho ba se lx cn pe lt le wa ta) := hD
        rw [nI_clamp (n := r) (by omega), show vp_nar .boolean on = on from by rcases hon with rfl | rfl <;> rfl] at hP hD
        refine lv_iload_n hx hb dX3_strict_51 rfl (lv_at hl 0 rfl) ?_
        exact g_iret hx hb hr hlocks (Nat.le_of_ble_eq_true rfl) (Nat.le_of_ble_eq_true rfl) hK hP hD hS dX3_strict_52 (by rw [nI_clamp (n := r) (by omega), hzs.2.1] at c35; unfold opStrict; rw [if_pos (inRow_nI hr10), hxr, if_neg hzr, if_neg c35]; exact ⟨rfl, ma, 0, wl, fd, op, _, zs, ho, ba, se, lx, pe, lt, le, wa, ta, rfl, rfl, MS_strict hMS, hLc, hQ⟩)
    · rw [nI_clamp (n := r) (by omega), hmr.1] at c23
      have hzr : z r = 0 := Classical.not_not.mp (fun q => by rw [if_neg q] at c23; exact absurd c23 (by decide))
      refine lv_bipush (v := -2) hx hb dX3_strict_26 (by decide) ?_
      exact g_iret hx hb hr hlocks (Nat.le_of_ble_eq_true rfl) (Nat.le_of_ble_eq_true rfl) hK hP hD hS dX3_strict_28 (by unfold opStrict; rw [if_pos (inRow_nI hr10), hxr, if_pos hzr]; exact ⟨rfl, ⟨ma, 0, wl, fd, op, st, zs, ho, ba, se, lx, pe, lt, le, wa, ta, rfl, rfl, hMS, hLc, hQ⟩⟩)
  · simp only [e9, Classical.not_not] at c12
    refine lv_iconst (v := -1) hx hb dX3_strict_15 (by decide) ?_
    exact g_iret hx hb hr hlocks (Nat.le_of_ble_eq_true rfl) (Nat.le_of_ble_eq_true rfl) hK hP hD hS dX3_strict_16 (by unfold opStrict; rw [if_neg (fun h => by simp only [inRow, Int32.le_iff_toInt_le, Int32.lt_iff_toInt_lt, gl_m1, gl_0, gl_1, gl_2, gl_3, gl_5, gl_6, gl_8, gl_9, gl_10, gl_11, gl_20, gl_40, gl_60] at h c12; omega)]; exact ⟨rfl, ⟨ma, 0, wl, fd, op, st, zs, ho, ba, se, lx, pe, lt, le, wa, ta, rfl, rfl, hMS, hLc, hQ⟩⟩)
set_option maxHeartbeats 4000000 in
set_option maxRecDepth 100000 in
theorem m_seat (l : Launch) (D : va_G) (K : gCl) (ma : Nat → Nat) (op st zs ho ba se lx cn pe lt le wa ta : Nat → Int32) (th wl fd : Int32) (z : Nat → Nat) (sd : Nat → Int32) (ow : Nat → Nat → Int32) (B mh : Nat) (fl : Int32) (q : List Pty) (li : List Nat) (x i : Int32) (sz : Nat) (hz : ∀ i, i < 10 → z i ≤ 20) (hB40 : B ≤ 40) (hq8 : q.length ≤ 8) (hmh6 : mh ≤ 6) (hOR : OR z ow B) (hMS : MS z sd op st zs se ow) (hLc : isL lx li) (hQ : MQr pe lt le q) : gMi l yX3_seat wsX3_seat ({ frames := 7, cells := 0, slots := 0, locals := 260 } : Room) D vwCl (gT K) [.ref (ma 0), .int x, .int i] (mW K ma th (nI li.length) (nI B) (nI q.length) (nI mh) fl wl fd op st zs ho ba se lx cn pe lt le wa ta) sz (RM K (ma 0) (opSeat z sd ow cn B q li mh fl x i)) 0 0 := by
  refine g_of (cc := cX3_seat) (maxL := 3) (ret := (some .int)) (Qc := fun A => va_Qi (RM K (ma 0) (opSeat z sd ow cn B q li mh fl x i)) (gB D vwCl (gT K) A) A) (by decide) rfl (Nat.le_of_ble_eq_true rfl) ?_
  intro p e s m below meth c A ls I hl
  have I0 := I
  obtain ⟨hx, hb, hr, hml, hown, hts, hlocks, hnm, hA, hK, hP, hD, hS⟩ := I
  have hown : s.vm.findClass RX3 = some m.cls := hown
  have hl : lv_has ls 3 [(0, .ref (ma 0)), (1, .int x), (2, .int i)] := hl
  have hi_X3 : ∀ w ∈ u_ws RX3 TX3 21, w ∈ wsX3_seat := by decide +kernel
  refine lv_aload_n hx hb dX3_seat_0 rfl (lv_at hl 0 rfl) ?_
  refine lv_iconst (v := 0) hx hb dX3_seat_1 (by decide) ?_
  refine va_put (C := RX3) (T := TX3) (N := 21) (ci := 3) (ty := .int) hx hb hts hi_X3 tyX3 tyX3_ok nmX3 hown hK hP hD hS (0) (rfl) rfl 0 (by decide) (hts (.fieldLink RX3 50 "GroupSeatsModel" "thrown" "I") (by decide +kernel)) (fun _ h9 => h9) rfl (by decide +kernel) rfl rfl (Nat.le_of_ble_eq_true rfl) dX3_seat_2 (fun H locs hP hD hS => ?_)
  have hP : va_P D vwCl (mW K ma 0 (nI li.length) (nI B) (nI q.length) (nI mh) fl wl fd op st zs ho ba se lx cn pe lt le wa ta) H := hP
  have hD : va_D A (mW K ma 0 (nI li.length) (nI B) (nI q.length) (nI mh) fl wl fd op st zs ho ba se lx cn pe lt le wa ta) := hD
  refine lv_iload_n hx hb dX3_seat_5 rfl (lv_at hl 1 rfl) ?_
  refine lv_iconst (v := 0) hx hb dX3_seat_6 (by decide) ?_
  refine lv_bipush (v := 9) hx hb dX3_seat_7 (by decide) ?_
  refine g_calli (va_runS (As := [.int _, .int _, .int _]) (rest := []) ⟨hx, hb, hml, hown, hts⟩ (c_in l D K _ _ _ _ _) (va_cwS 3 hts gX3_seat_X3_in rfl rfl rfl (by decide +kernel) ⟨(Nat.le_of_ble_eq_true rfl), (Nat.le_of_ble_eq_true rfl)⟩) (g_preS hK hP hD) rfl rfl hl.1 rfl (lv_room (Nat.le_of_ble_eq_true rfl)) dX3_seat_9 ⟨Nat.zero_le _, Nat.zero_le _⟩) hD hS hA (fun r9 wv H locs hw hP hD hS => ?_)
  obtain ⟨ew, e9⟩ := hw
  rw [ew] at hP hD
  refine lv_if_eq (tgt := 19) hx hb dX3_seat_12 (by decide) (fun c12 => ?_) (fun c12 => ?_)
  · simp only [e9, Classical.not_not] at c12
    refine lv_iconst (v := -1) hx hb dX3_seat_19 (by decide) ?_
    exact g_iret hx hb hr hlocks (Nat.le_of_ble_eq_true rfl) (Nat.le_of_ble_eq_true rfl) hK hP hD hS dX3_seat_20 (by unfold opSeat; rw [if_neg (fun h => by simp only [inRow, Int32.le_iff_toInt_le, Int32.lt_iff_toInt_lt, gl_m1, gl_0, gl_1, gl_2, gl_3, gl_5, gl_6, gl_8, gl_9, gl_10, gl_11, gl_20, gl_40, gl_60] at h c12; omega)]; exact ⟨rfl, ⟨ma, 0, wl, fd, op, st, zs, ho, ba, se, lx, pe, lt, le, wa, ta, rfl, rfl, hMS, hLc, hQ⟩⟩)
  · simp only [e9, Classical.not_not] at c12
    refine lv_iload_n hx hb dX3_seat_15 rfl (lv_at hl 2 rfl) ?_
    refine lv_if_ge (tgt := 21) hx hb dX3_seat_16 (by decide) (fun c16 => ?_) (fun c16 => ?_)
    · obtain ⟨r, hr10, rfl⟩ := g_ix (n := 10) (M := 10) rfl ⟨c12.1, g_le9 c12.2⟩
      have hrz := hz r hr10
      have hxr : ixN (nI r) = r := ixN_nI (by omega)
      have hmr := hMS r hr10
      refine lv_aload_n hx hb dX3_seat_21 rfl (lv_at hl 0 rfl) ?_
      refine va_get (C := RX3) (T := TX3) (N := 21) (ci := 3) hx hb hts hi_X3 hown hK hP (0) (rfl) rfl 1 (by decide) (hts (.fieldLink RX3 7 "GroupSeatsModel" "isOpen" "[Z") (by decide +kernel)) (fun _ h9 => h9) rfl dX3_seat_22 ?_
      refine lv_iload_n hx hb dX3_seat_25 rfl (lv_at hl 1 rfl) ?_
      refine va_zald hx hb hK hP (1) 1 (rfl) rfl (vp_in_nI (show r < 10 by omega) (by decide)) dX3_seat_26 ?_
      refine lv_if_eq (tgt := 40) hx hb dX3_seat_27 (by decide) (fun c27 => ?_) (fun c27 => ?_)
      · rw [nI_clamp (n := r) (by omega), hmr.1] at c27
        have hzr : z r = 0 := Classical.not_not.mp (fun q => by rw [if_neg q] at c27; exact absurd c27 (by decide))
        refine lv_bipush (v := -2) hx hb dX3_seat_40 (by decide) ?_
        exact g_iret hx hb hr hlocks (Nat.le_of_ble_eq_true rfl) (Nat.le_of_ble_eq_true rfl) hK hP hD hS dX3_seat_42 (by unfold opSeat; rw [if_pos ⟨inRow_nI hr10, c16⟩, hxr, if_neg (fun h => by rw [hzr] at h; simp only [Int32.le_iff_toInt_le, Int32.lt_iff_toInt_lt, gl_m1, gl_0, gl_1, gl_2, gl_3, gl_5, gl_6, gl_8, gl_9, gl_10, gl_11, gl_20, gl_40, gl_60, show nI 0 = 0 from rfl] at h c16; omega)]; exact ⟨rfl, ⟨ma, 0, wl, fd, op, st, zs, ho, ba, se, lx, pe, lt, le, wa, ta, rfl, rfl, hMS, hLc, hQ⟩⟩)
      · rw [nI_clamp (n := r) (by omega), hmr.1] at c27
        have hzr : z r ≠ 0 := fun q => c27 (by rw [if_pos q])
        have hzs := hmr.2 hzr
        refine lv_iload_n hx hb dX3_seat_30 rfl (lv_at hl 2 rfl) ?_
        refine lv_aload_n hx hb dX3_seat_31 rfl (lv_at hl 0 rfl) ?_
        refine va_get (C := RX3) (T := TX3) (N := 21) (ci := 3) hx hb hts hi_X3 hown hK hP (0) (rfl) rfl 3 (by decide) (hts (.fieldLink RX3 16 "GroupSeatsModel" "size" "[I") (by decide +kernel)) (fun _ h9 => h9) rfl dX3_seat_32 ?_
        refine lv_iload_n hx hb dX3_seat_35 rfl (lv_at hl 1 rfl) ?_
        refine va_iald hx hb hK hP (3) 0 (rfl) rfl (vp_in_nI (show r < 10 by omega) (by decide)) dX3_seat_36 ?_
        refine lv_icmp_lt (tgt := 43) hx hb dX3_seat_37 (by decide) (fun c37 => ?_) (fun c37 => ?_)
        · rw [nI_clamp (n := r) (by omega), hzs.1] at c37
          obtain ⟨i1, hi1, rfl⟩ := g_ixn (n := z r) (by omega) ⟨c16, c37⟩
          refine lv_aload_n hx hb dX3_seat_43 rfl (lv_at hl 0 rfl) ?_
          refine va_get (C := RX3) (T := TX3) (N := 21) (ci := 3) hx hb hts hi_X3 hown hK hP (0) (rfl) rfl 6 (by decide) (hts (.fieldLink RX3 26 "GroupSeatsModel" "seats" "[I") (by decide +kernel)) (fun _ h9 => h9) rfl dX3_seat_44 ?_
          refine lv_bipush (v := 20) hx hb dX3_seat_47 (by decide) ?_
          refine lv_iload_n hx hb dX3_seat_49 rfl (lv_at hl 1 rfl) ?_
          refine lv_imul hx hb dX3_seat_50 ?_
          refine lv_iload_n hx hb dX3_seat_51 rfl (lv_at hl 2 rfl) ?_
          refine lv_iadd hx hb dX3_seat_52 ?_
          refine va_iald hx hb hK hP (6) 0 (rfl) rfl (in_20 hr10 (show i1 < 20 by omega)) dX3_seat_53 ?_
          refine lv_bipush (v := -8) hx hb dX3_seat_54 (by decide) ?_
          refine lv_icmp_ne (tgt := 64) hx hb dX3_seat_56 (by decide) (fun c56 => ?_) (fun c56 => ?_)
          · refine lv_aload_n hx hb dX3_seat_64 rfl (lv_at hl 0 rfl) ?_
            refine va_get (C := RX3) (T := TX3) (N := 21) (ci := 3) hx hb hts hi_X3 hown hK hP (0) (rfl) rfl 6 (by decide) (hts (.fieldLink RX3 26 "GroupSeatsModel" "seats" "[I") (by decide +kernel)) (fun _ h9 => h9) rfl dX3_seat_65 ?_
            refine lv_bipush (v := 20) hx hb dX3_seat_68 (by decide) ?_
            refine lv_iload_n hx hb dX3_seat_70 rfl (lv_at hl 1 rfl) ?_
            refine lv_imul hx hb dX3_seat_71 ?_
            refine lv_iload_n hx hb dX3_seat_72 rfl (lv_at hl 2 rfl) ?_
            refine lv_iadd hx hb dX3_seat_73 ?_
            refine va_iald hx hb hK hP (6) 0 (rfl) rfl (in_20 hr10 (show i1 < 20 by omega)) dX3_seat_74 ?_
            exact g_iret hx hb hr hlocks (Nat.le_of_ble_eq_true rfl) (Nat.le_of_ble_eq_true rfl) hK hP hD hS dX3_seat_75 (by rw [ix_20 hr10 (by omega)] at c56; unfold opSeat; rw [if_pos ⟨inRow_nI hr10, c16⟩, hxr, if_pos c37, ixN_nI (by omega), ← hzs.2.2, rowOf_in (by omega)]; exact ⟨by rw [ix_20 hr10 (by omega)], ⟨ma, 0, wl, fd, op, st, zs, ho, ba, se, lx, pe, lt, le, wa, ta, rfl, rfl, hMS, hLc, hQ⟩⟩)
          · refine lv_bipush (v := -8) hx hb dX3_seat_59 (by decide) ?_
            refine lv_goto (tgt := 75) hx hb dX3_seat_61 (by decide) ?_
            exact g_iret hx hb hr hlocks (Nat.le_of_ble_eq_true rfl) (Nat.le_of_ble_eq_true rfl) hK hP hD hS dX3_seat_75 (by rw [ix_20 hr10 (by omega)] at c56; unfold opSeat; rw [if_pos ⟨inRow_nI hr10, c16⟩, hxr, if_pos c37, ixN_nI (by omega), ← hzs.2.2, rowOf_in (by omega)]; exact ⟨c56.symm, ⟨ma, 0, wl, fd, op, st, zs, ho, ba, se, lx, pe, lt, le, wa, ta, rfl, rfl, hMS, hLc, hQ⟩⟩)
        · refine lv_bipush (v := -2) hx hb dX3_seat_40 (by decide) ?_
          exact g_iret hx hb hr hlocks (Nat.le_of_ble_eq_true rfl) (Nat.le_of_ble_eq_true rfl) hK hP hD hS dX3_seat_42 (by rw [nI_clamp (n := r) (by omega), hzs.1] at c37; unfold opSeat; rw [if_pos ⟨inRow_nI hr10, c16⟩, hxr, if_neg c37]; exact ⟨rfl, ⟨ma, 0, wl, fd, op, st, zs, ho, ba, se, lx, pe, lt, le, wa, ta, rfl, rfl, hMS, hLc, hQ⟩⟩)
    · refine lv_iconst (v := -1) hx hb dX3_seat_19 (by decide) ?_
      exact g_iret hx hb hr hlocks (Nat.le_of_ble_eq_true rfl) (Nat.le_of_ble_eq_true rfl) hK hP hD hS dX3_seat_20 (by unfold opSeat; rw [if_neg (fun h => by simp only [inRow, Int32.le_iff_toInt_le, Int32.lt_iff_toInt_lt, gl_m1, gl_0, gl_1, gl_2, gl_3, gl_5, gl_6, gl_8, gl_9, gl_10, gl_11, gl_20, gl_40, gl_60] at h c12 c16; omega)]; exact ⟨rfl, ⟨ma, 0, wl, fd, op, st, zs, ho, ba, se, lx, pe, lt, le, wa, ta, rfl, rfl, hMS, hLc, hQ⟩⟩)
set_option maxHeartbeats 4000000 in
set_option maxRecDepth 100000 in
theorem m_list (l : Launch) (D : va_G) (K : gCl) (ma : Nat → Nat) (op st zs ho ba se lx cn pe lt le wa ta : Nat → Int32) (th wl fd : Int32) (z : Nat → Nat) (sd : Nat → Int32) (ow : Nat → Nat → Int32) (B mh : Nat) (fl : Int32) (q : List Pty) (li : List Nat) (x : Int32) (sz : Nat) (hz : ∀ i, i < 10 → z i ≤ 20) (hB40 : B ≤ 40) (hq8 : q.length ≤ 8) (hmh6 : mh ≤ 6) (hOR : OR z ow B) (hMS : MS z sd op st zs se ow) (hLc : isL lx li) (hQ : MQr pe lt le q) : gMi l yX3_list wsX3_list ({ frames := 7, cells := 0, slots := 0, locals := 260 } : Room) D vwCl (gT K) [.ref (ma 0), .int x] (mW K ma th (nI li.length) (nI B) (nI q.length) (nI mh) fl wl fd op st zs ho ba se lx cn pe lt le wa ta) sz (RM K (ma 0) (opList z sd ow cn B q li mh fl x)) 0 0 := by
  refine g_of (cc := cX3_list) (maxL := 2) (ret := (some .int)) (Qc := fun A => va_Qi (RM K (ma 0) (opList z sd ow cn B q li mh fl x)) (gB D vwCl (gT K) A) A) (by decide) rfl (Nat.le_of_ble_eq_true rfl) ?_
  intro p e s m below meth c A ls I hl
  have I0 := I
  obtain ⟨hx, hb, hr, hml, hown, hts, hlocks, hnm, hA, hK, hP, hD, hS⟩ := I
  have hown : s.vm.findClass RX3 = some m.cls := hown
  have hl : lv_has ls 2 [(0, .ref (ma 0)), (1, .int x)] := hl
  have hi_X3 : ∀ w ∈ u_ws RX3 TX3 21, w ∈ wsX3_list := by decide +kernel
  have hLc6 := hLc.1
  refine lv_aload_n hx hb dX3_list_0 rfl (lv_at hl 0 rfl) ?_
  refine lv_iconst (v := 0) hx hb dX3_list_1 (by decide) ?_
  refine va_put (C := RX3) (T := TX3) (N := 21) (ci := 3) (ty := .int) hx hb hts hi_X3 tyX3 tyX3_ok nmX3 hown hK hP hD hS (0) (rfl) rfl 0 (by decide) (hts (.fieldLink RX3 50 "GroupSeatsModel" "thrown" "I") (by decide +kernel)) (fun _ h9 => h9) rfl (by decide +kernel) rfl rfl (Nat.le_of_ble_eq_true rfl) dX3_list_2 (fun H locs hP hD hS => ?_)
  have hP : va_P D vwCl (mW K ma 0 (nI li.length) (nI B) (nI q.length) (nI mh) fl wl fd op st zs ho ba se lx cn pe lt le wa ta) H := hP
  have hD : va_D A (mW K ma 0 (nI li.length) (nI B) (nI q.length) (nI mh) fl wl fd op st zs ho ba se lx cn pe lt le wa ta) := hD
  refine lv_iload_n hx hb dX3_list_5 rfl (lv_at hl 1 rfl) ?_
  refine lv_iconst (v := 0) hx hb dX3_list_6 (by decide) ?_
  refine lv_bipush (v := 11) hx hb dX3_list_7 (by decide) ?_
  refine g_calli (va_runS (As := [.int _, .int _, .int _]) (rest := []) ⟨hx, hb, hml, hown, hts⟩ (c_in l D K _ _ _ _ _) (va_cwS 3 hts gX3_list_X3_in rfl rfl rfl (by decide +kernel) ⟨(Nat.le_of_ble_eq_true rfl), (Nat.le_of_ble_eq_true rfl)⟩) (g_preS hK hP hD) rfl rfl hl.1 rfl (lv_room (Nat.le_of_ble_eq_true rfl)) dX3_list_9 ⟨Nat.zero_le _, Nat.zero_le _⟩) hD hS hA (fun r9 wv H locs hw hP hD hS => ?_)
  obtain ⟨ew, e9⟩ := hw
  rw [ew] at hP hD
  refine lv_if_ne (tgt := 17) hx hb dX3_list_12 (by decide) (fun c12 => ?_) (fun c12 => ?_)
  · simp only [e9, Classical.not_not] at c12
    refine lv_aload_n hx hb dX3_list_17 rfl (lv_at hl 0 rfl) ?_
    refine va_get (C := RX3) (T := TX3) (N := 21) (ci := 3) hx hb hts hi_X3 hown hK hP (0) (rfl) rfl 8 (by decide) (hts (.fieldLink RX3 105 "GroupSeatsModel" "listed" "I") (by decide +kernel)) (fun _ h9 => h9) rfl dX3_list_18 ?_
    refine lv_bipush (v := 6) hx hb dX3_list_21 (by decide) ?_
    refine lv_icmp_ne (tgt := 29) hx hb dX3_list_23 (by decide) (fun c23 => ?_) (fun c23 => ?_)
    · obtain ⟨i1, hi1, rfl⟩ := nI_of2 (n := 11) (M := 11) rfl (by have := c12.1; simp only [Int32.le_iff_toInt_le, Int32.lt_iff_toInt_lt, gl_m1, gl_0, gl_1, gl_2, gl_3, gl_5, gl_6, gl_8, gl_9, gl_10, gl_11, gl_20, gl_40, gl_60] at this ⊢; omega) c12.2
      have hl6 : li.length < 6 := by
        rcases Nat.lt_or_ge li.length 6 with q9 | q9
        · exact q9
        · exact absurd (by rw [show li.length = 6 by omega]; rfl) c23
      refine lv_aload_n hx hb dX3_list_29 rfl (lv_at hl 0 rfl) ?_
      refine va_get (C := RX3) (T := TX3) (N := 21) (ci := 3) hx hb hts hi_X3 hown hK hP (0) (rfl) rfl 7 (by decide) (hts (.fieldLink RX3 29 "GroupSeatsModel" "list" "[I") (by decide +kernel)) (fun _ h9 => h9) rfl dX3_list_30 ?_
      refine lv_aload_n hx hb dX3_list_33 rfl (lv_at hl 0 rfl) ?_
      refine va_get (C := RX3) (T := TX3) (N := 21) (ci := 3) hx hb hts hi_X3 hown hK hP (0) (rfl) rfl 8 (by decide) (hts (.fieldLink RX3 105 "GroupSeatsModel" "listed" "I") (by decide +kernel)) (fun _ h9 => h9) rfl dX3_list_34 ?_
      refine lv_iload_n hx hb dX3_list_37 rfl (lv_at hl 1 rfl) ?_
      refine va_iast hx hb hK hP hD hS (7) 0 (rfl) rfl (vp_in_nI hl6 (by decide)) dX3_list_38 (fun H locs hP hD hS => ?_)
      have hP : va_P D vwCl (mW K ma 0 (nI li.length) (nI B) (nI q.length) (nI mh) fl wl fd op st zs ho ba se (upd lx (nI li.length).toNatClampNeg (nI i1)) cn pe lt le wa ta) H := hP
      have hD : va_D A (mW K ma 0 (nI li.length) (nI B) (nI q.length) (nI mh) fl wl fd op st zs ho ba se (upd lx (nI li.length).toNatClampNeg (nI i1)) cn pe lt le wa ta) := hD
      rw [nI_clamp (n := li.length) (by omega)] at hP hD
      refine lv_aload_n hx hb dX3_list_39 rfl (lv_at hl 0 rfl) ?_
      refine lv_dup hx hb dX3_list_40 rfl ?_
      refine va_get (C := RX3) (T := TX3) (N := 21) (ci := 3) hx hb hts hi_X3 hown hK hP (0) (rfl) rfl 8 (by decide) (hts (.fieldLink RX3 105 "GroupSeatsModel" "listed" "I") (by decide +kernel)) (fun _ h9 => h9) rfl dX3_list_41 ?_
      refine lv_iconst (v := 1) hx hb dX3_list_44 (by decide) ?_
      refine lv_iadd hx hb dX3_list_45 ?_
      refine va_put (C := RX3) (T := TX3) (N := 21) (ci := 3) (ty := .int) hx hb hts hi_X3 tyX3 tyX3_ok nmX3 hown hK hP hD hS (0) (rfl) rfl 8 (by decide) (hts (.fieldLink RX3 105 "GroupSeatsModel" "listed" "I") (by decide +kernel)) (fun _ h9 => h9) rfl (by decide +kernel) rfl rfl (Nat.le_of_ble_eq_true rfl) dX3_list_46 (fun H locs hP hD hS => ?_)
      have hP : va_P D vwCl (mW K ma 0 (nI li.length + 1) (nI B) (nI q.length) (nI mh) fl wl fd op st zs ho ba se (upd lx li.length (nI i1)) cn pe lt le wa ta) H := hP
      have hD : va_D A (mW K ma 0 (nI li.length + 1) (nI B) (nI q.length) (nI mh) fl wl fd op st zs ho ba se (upd lx li.length (nI i1)) cn pe lt le wa ta) := hD
      rw [nI_1 li.length] at hP hD
      refine lv_aload_n hx hb dX3_list_49 rfl (lv_at hl 0 rfl) ?_
      refine va_get (C := RX3) (T := TX3) (N := 21) (ci := 3) hx hb hts hi_X3 hown hK hP (0) (rfl) rfl 8 (by decide) (hts (.fieldLink RX3 105 "GroupSeatsModel" "listed" "I") (by decide +kernel)) (fun _ h9 => h9) rfl dX3_list_50 ?_
      exact g_iret hx hb hr hlocks (Nat.le_of_ble_eq_true rfl) (Nat.le_of_ble_eq_true rfl) hK hP hD hS dX3_list_53 (by unfold opList; rw [if_pos c12, if_pos hl6, ixN_nI (by omega)]; exact ⟨rfl, ma, 0, wl, fd, op, st, zs, ho, ba, se, _, pe, lt, le, wa, ta, rfl, by rw [List.length_append]; rfl, hMS, isL_push hLc hl6 hi1, hQ⟩)
    · refine lv_bipush (v := -3) hx hb dX3_list_26 (by decide) ?_
      exact g_iret hx hb hr hlocks (Nat.le_of_ble_eq_true rfl) (Nat.le_of_ble_eq_true rfl) hK hP hD hS dX3_list_28 (by have h6 := (nI_eq (a := li.length) (b := 6) (by omega) (by decide)).mp c23; unfold opList; rw [if_pos c12, if_neg (by omega)]; exact ⟨rfl, ⟨ma, 0, wl, fd, op, st, zs, ho, ba, se, lx, pe, lt, le, wa, ta, rfl, rfl, hMS, hLc, hQ⟩⟩)
  · simp only [e9, Classical.not_not] at c12
    refine lv_iconst (v := -1) hx hb dX3_list_15 (by decide) ?_
    exact g_iret hx hb hr hlocks (Nat.le_of_ble_eq_true rfl) (Nat.le_of_ble_eq_true rfl) hK hP hD hS dX3_list_16 (by unfold opList; rw [if_neg (fun h => by simp only [inRow, Int32.le_iff_toInt_le, Int32.lt_iff_toInt_lt, gl_m1, gl_0, gl_1, gl_2, gl_3, gl_5, gl_6, gl_8, gl_9, gl_10, gl_11, gl_20, gl_40, gl_60] at h c12; omega)]; exact ⟨rfl, ⟨ma, 0, wl, fd, op, st, zs, ho, ba, se, lx, pe, lt, le, wa, ta, rfl, rfl, hMS, hLc, hQ⟩⟩)
set_option maxHeartbeats 4000000 in
set_option maxRecDepth 100000 in
theorem m_waiting (l : Launch) (D : va_G) (K : gCl) (ma : Nat → Nat) (op st zs ho ba se lx cn pe lt le wa ta : Nat → Int32) (th wl fd : Int32) (z : Nat → Nat) (sd : Nat → Int32) (ow : Nat → Nat → Int32) (B mh : Nat) (fl : Int32) (q : List Pty) (li : List Nat) (x : Int32) (sz : Nat) (hz : ∀ i, i < 10 → z i ≤ 20) (hB40 : B ≤ 40) (hq8 : q.length ≤ 8) (hmh6 : mh ≤ 6) (hOR : OR z ow B) (hMS : MS z sd op st zs se ow) (hLc : isL lx li) (hQ : MQr pe lt le q) : gMi l yX3_waiting wsX3_waiting ({ frames := 7, cells := 0, slots := 0, locals := 260 } : Room) D vwCl (gT K) [.ref (ma 0), .int x] (mW K ma th (nI li.length) (nI B) (nI q.length) (nI mh) fl wl fd op st zs ho ba se lx cn pe lt le wa ta) sz (RM K (ma 0) (opWaiting z sd ow cn B q li mh fl x)) 0 0 := by
  refine g_of (cc := cX3_waiting) (maxL := 2) (ret := (some .int)) (Qc := fun A => va_Qi (RM K (ma 0) (opWaiting z sd ow cn B q li mh fl x)) (gB D vwCl (gT K) A) A) (by decide) rfl (Nat.le_of_ble_eq_true rfl) ?_
  intro p e s m below meth c A ls I hl
  have I0 := I
  obtain ⟨hx, hb, hr, hml, hown, hts, hlocks, hnm, hA, hK, hP, hD, hS⟩ := I
  have hown : s.vm.findClass RX3 = some m.cls := hown
  have hl : lv_has ls 2 [(0, .ref (ma 0)), (1, .int x)] := hl
  have hi_X3 : ∀ w ∈ u_ws RX3 TX3 21, w ∈ wsX3_waiting := by decide +kernel
  refine lv_aload_n hx hb dX3_waiting_0 rfl (lv_at hl 0 rfl) ?_
  refine lv_iconst (v := 0) hx hb dX3_waiting_1 (by decide) ?_
  refine va_put (C := RX3) (T := TX3) (N := 21) (ci := 3) (ty := .int) hx hb hts hi_X3 tyX3 tyX3_ok nmX3 hown hK hP hD hS (0) (rfl) rfl 0 (by decide) (hts (.fieldLink RX3 50 "GroupSeatsModel" "thrown" "I") (by decide +kernel)) (fun _ h9 => h9) rfl (by decide +kernel) rfl rfl (Nat.le_of_ble_eq_true rfl) dX3_waiting_2 (fun H locs hP hD hS => ?_)
  have hP : va_P D vwCl (mW K ma 0 (nI li.length) (nI B) (nI q.length) (nI mh) fl wl fd op st zs ho ba se lx cn pe lt le wa ta) H := hP
  have hD : va_D A (mW K ma 0 (nI li.length) (nI B) (nI q.length) (nI mh) fl wl fd op st zs ho ba se lx cn pe lt le wa ta) := hD
  refine lv_iload_n hx hb dX3_waiting_5 rfl (lv_at hl 1 rfl) ?_
  refine lv_iconst (v := 0) hx hb dX3_waiting_6 (by decide) ?_
  refine lv_aload_n hx hb dX3_waiting_7 rfl (lv_at hl 0 rfl) ?_
  refine va_get (C := RX3) (T := TX3) (N := 21) (ci := 3) hx hb hts hi_X3 hown hK hP (0) (rfl) rfl 14 (by decide) (hts (.fieldLink RX3 84 "GroupSeatsModel" "waits" "I") (by decide +kernel)) (fun _ h9 => h9) rfl dX3_waiting_8 ?_
  refine lv_iconst (v := 1) hx hb dX3_waiting_11 (by decide) ?_
  refine lv_isub hx hb dX3_waiting_12 ?_
  refine g_calli (va_runS (As := [.int _, .int _, .int _]) (rest := []) ⟨hx, hb, hml, hown, hts⟩ (c_in l D K _ _ _ _ _) (va_cwS 3 hts gX3_waiting_X3_in rfl rfl rfl (by decide +kernel) ⟨(Nat.le_of_ble_eq_true rfl), (Nat.le_of_ble_eq_true rfl)⟩) (g_preS hK hP hD) rfl rfl hl.1 rfl (lv_room (Nat.le_of_ble_eq_true rfl)) dX3_waiting_13 ⟨Nat.zero_le _, Nat.zero_le _⟩) hD hS hA (fun r13 wv H locs hw hP hD hS => ?_)
  obtain ⟨ew, e13⟩ := hw
  rw [ew] at hP hD
  refine lv_if_eq (tgt := 28) hx hb dX3_waiting_16 (by decide) (fun c16 => ?_) (fun c16 => ?_)
  · simp only [e13, Classical.not_not] at c16
    refine lv_bipush (v := -8) hx hb dX3_waiting_28 (by decide) ?_
    exact g_iret hx hb hr hlocks (Nat.le_of_ble_eq_true rfl) (Nat.le_of_ble_eq_true rfl) hK hP hD hS dX3_waiting_30 (by rw [le_pred (by omega)] at c16; unfold opWaiting; rw [if_neg c16]; exact ⟨rfl, ⟨ma, 0, wl, fd, op, st, zs, ho, ba, se, lx, pe, lt, le, wa, ta, rfl, rfl, hMS, hLc, hQ⟩⟩)
  · simp only [e13, Classical.not_not] at c16
    rw [le_pred (by omega)] at c16
    obtain ⟨k0, hk0, rfl⟩ := g_ixn (n := q.length) (by omega) c16
    have hR := hQ k0 q[k0] (List.getElem?_eq_getElem hk0)
    have hxk : ixN (nI k0) = k0 := ixN_nI (by omega)
    have hgd : q.getD k0 (0, []) = q[k0] := by simp [List.getD_eq_getElem?_getD, hk0]
    refine lv_aload_n hx hb dX3_waiting_19 rfl (lv_at hl 0 rfl) ?_
    refine va_get (C := RX3) (T := TX3) (N := 21) (ci := 3) hx hb hts hi_X3 hown hK hP (0) (rfl) rfl 11 (by decide) (hts (.fieldLink RX3 35 "GroupSeatsModel" "people" "[I") (by decide +kernel)) (fun _ h9 => h9) rfl dX3_waiting_20 ?_
    refine lv_iload_n hx hb dX3_waiting_23 rfl (lv_at hl 1 rfl) ?_
    refine va_iald hx hb hK hP (9) 0 (rfl) rfl (vp_in_nI (show k0 < 8 by omega) (by decide)) dX3_waiting_24 ?_
    refine lv_goto (tgt := 30) hx hb dX3_waiting_25 (by decide) ?_
    exact g_iret hx hb hr hlocks (Nat.le_of_ble_eq_true rfl) (Nat.le_of_ble_eq_true rfl) hK hP hD hS dX3_waiting_30 (by unfold opWaiting; rw [if_pos c16, hxk, hgd, ← hR.1, nI_clamp (n := k0) (by omega)]; exact ⟨rfl, ⟨ma, 0, wl, fd, op, st, zs, ho, ba, se, lx, pe, lt, le, wa, ta, rfl, rfl, hMS, hLc, hQ⟩⟩)
set_option maxHeartbeats 4000000 in
set_option maxRecDepth 100000 in
theorem m_leave (l : Launch) (D : va_G) (K : gCl) (ma : Nat → Nat) (op st zs ho ba se lx cn pe lt le wa ta : Nat → Int32) (th wl fd : Int32) (z : Nat → Nat) (sd : Nat → Int32) (ow : Nat → Nat → Int32) (B mh : Nat) (fl : Int32) (q : List Pty) (li : List Nat) (x : Int32) (sz : Nat) (hz : ∀ i, i < 10 → z i ≤ 20) (hB40 : B ≤ 40) (hq8 : q.length ≤ 8) (hmh6 : mh ≤ 6) (hOR : OR z ow B) (hMS : MS z sd op st zs se ow) (hLc : isL lx li) (hQ : MQr pe lt le q) : gMi l yX3_leave wsX3_leave ({ frames := 7, cells := 0, slots := 0, locals := 260 } : Room) D vwCl (gT K) [.ref (ma 0), .int x] (mW K ma th (nI li.length) (nI B) (nI q.length) (nI mh) fl wl fd op st zs ho ba se lx cn pe lt le wa ta) sz (RM K (ma 0) (opLeave z sd ow cn B q li mh fl x)) 0 0 := by
  refine g_of (cc := cX3_leave) (maxL := 3) (ret := (some .int)) (Qc := fun A => va_Qi (RM K (ma 0) (opLeave z sd ow cn B q li mh fl x)) (gB D vwCl (gT K) A) A) (by decide) rfl (Nat.le_of_ble_eq_true rfl) ?_
  intro p e s m below meth c A ls I hl
  have I0 := I
  obtain ⟨hx, hb, hr, hml, hown, hts, hlocks, hnm, hA, hK, hP, hD, hS⟩ := I
  have hown : s.vm.findClass RX3 = some m.cls := hown
  have hl : lv_has ls 3 [(0, .ref (ma 0)), (1, .int x)] := hl
  have hi_X3 : ∀ w ∈ u_ws RX3 TX3 21, w ∈ wsX3_leave := by decide +kernel
  refine lv_aload_n hx hb dX3_leave_0 rfl (lv_at hl 0 rfl) ?_
  refine lv_iconst (v := 0) hx hb dX3_leave_1 (by decide) ?_
  refine va_put (C := RX3) (T := TX3) (N := 21) (ci := 3) (ty := .int) hx hb hts hi_X3 tyX3 tyX3_ok nmX3 hown hK hP hD hS (0) (rfl) rfl 0 (by decide) (hts (.fieldLink RX3 50 "GroupSeatsModel" "thrown" "I") (by decide +kernel)) (fun _ h9 => h9) rfl (by decide +kernel) rfl rfl (Nat.le_of_ble_eq_true rfl) dX3_leave_2 (fun H locs hP hD hS => ?_)
  have hP : va_P D vwCl (mW K ma 0 (nI li.length) (nI B) (nI q.length) (nI mh) fl wl fd op st zs ho ba se lx cn pe lt le wa ta) H := hP
  have hD : va_D A (mW K ma 0 (nI li.length) (nI B) (nI q.length) (nI mh) fl wl fd op st zs ho ba se lx cn pe lt le wa ta) := hD
  refine lv_iload_n hx hb dX3_leave_5 rfl (lv_at hl 1 rfl) ?_
  refine lv_iconst (v := 0) hx hb dX3_leave_6 (by decide) ?_
  refine lv_aload_n hx hb dX3_leave_7 rfl (lv_at hl 0 rfl) ?_
  refine va_get (C := RX3) (T := TX3) (N := 21) (ci := 3) hx hb hts hi_X3 hown hK hP (0) (rfl) rfl 14 (by decide) (hts (.fieldLink RX3 84 "GroupSeatsModel" "waits" "I") (by decide +kernel)) (fun _ h9 => h9) rfl dX3_leave_8 ?_
  refine lv_iconst (v := 1) hx hb dX3_leave_11 (by decide) ?_
  refine lv_isub hx hb dX3_leave_12 ?_
  refine g_calli (va_runS (As := [.int _, .int _, .int _]) (rest := []) ⟨hx, hb, hml, hown, hts⟩ (c_in l D K _ _ _ _ _) (va_cwS 3 hts gX3_leave_X3_in rfl rfl rfl (by decide +kernel) ⟨(Nat.le_of_ble_eq_true rfl), (Nat.le_of_ble_eq_true rfl)⟩) (g_preS hK hP hD) rfl rfl hl.1 rfl (lv_room (Nat.le_of_ble_eq_true rfl)) dX3_leave_13 ⟨Nat.zero_le _, Nat.zero_le _⟩) hD hS hA (fun r13 wv H locs hw hP hD hS => ?_)
  obtain ⟨ew, e13⟩ := hw
  rw [ew] at hP hD
  refine lv_if_ne (tgt := 21) hx hb dX3_leave_16 (by decide) (fun c16 => ?_) (fun c16 => ?_)
  · simp only [e13, Classical.not_not] at c16
    rw [le_pred (by omega)] at c16
    obtain ⟨k0, hk0, rfl⟩ := g_ixn (n := q.length) (by omega) c16
    have hR := hQ k0 q[k0] (List.getElem?_eq_getElem hk0)
    have hxk : ixN (nI k0) = k0 := ixN_nI (by omega)
    have hgd : q.getD k0 (0, []) = q[k0] := by simp [List.getD_eq_getElem?_getD, hk0]
    refine lv_aload_n hx hb dX3_leave_21 rfl (lv_at hl 0 rfl) ?_
    refine va_get (C := RX3) (T := TX3) (N := 21) (ci := 3) hx hb hts hi_X3 hown hK hP (0) (rfl) rfl 11 (by decide) (hts (.fieldLink RX3 35 "GroupSeatsModel" "people" "[I") (by decide +kernel)) (fun _ h9 => h9) rfl dX3_leave_22 ?_
    refine lv_iload_n hx hb dX3_leave_25 rfl (lv_at hl 1 rfl) ?_
    refine va_iald hx hb hK hP (9) 0 (rfl) rfl (vp_in_nI (show k0 < 8 by omega) (by decide)) dX3_leave_26 ?_
    refine lv_istore_n (lv' := [(2, .int _), (0, .ref _), (1, .int _)]) hx hb dX3_leave_27 rfl hl (by decide) rfl (fun ls hl => ?_)
    refine lv_aload_n hx hb dX3_leave_28 rfl (lv_at hl 1 rfl) ?_
    refine lv_iload_n hx hb dX3_leave_29 rfl (lv_at hl 2 rfl) ?_
    refine g_callv (va_runV (As := [.int _]) (rest := []) ⟨hx, hb, hml, hown, hts⟩ (m_removed l D K ma op st zs ho ba se lx cn pe lt le wa ta 0 (nI li.length) (nI B) (nI mh) fl wl fd q.length k0 _ hq8 hk0) (cwV 1 hts gX3_leave_X3_removed rfl rfl rfl (by decide +kernel) ⟨(Nat.le_of_ble_eq_true rfl), (Nat.le_of_ble_eq_true rfl)⟩) (g_preV hK hP hD (ci := 3) (q0 := 0) rfl (rfl)) rfl rfl hl.1 rfl (lv_room (Nat.le_of_ble_eq_true rfl)) dX3_leave_30 ⟨Nat.zero_le _, Nat.zero_le _⟩) hD hS hA (fun wv H locs hw hP hD hS => ?_)
    rw [hw] at hP hD
    refine lv_iload_n hx hb dX3_leave_33 rfl (lv_at hl 0 rfl) ?_
    exact g_iret hx hb hr hlocks (Nat.le_of_ble_eq_true rfl) (Nat.le_of_ble_eq_true rfl) hK hP hD hS dX3_leave_34 (by unfold opLeave; rw [if_pos c16, hxk, hgd, ← hR.1, nI_clamp (n := k0) (by omega)]; exact ⟨rfl, ma, 0, wl, fd, op, st, zs, ho, ba, se, lx, _, _, _, wa, ta, rfl, by rw [List.length_eraseIdx_of_lt hk0], hMS, hLc, MQr_erase hk0 hQ⟩)
  · simp only [e13, Classical.not_not] at c16
    refine lv_iconst (v := -1) hx hb dX3_leave_19 (by decide) ?_
    exact g_iret hx hb hr hlocks (Nat.le_of_ble_eq_true rfl) (Nat.le_of_ble_eq_true rfl) hK hP hD hS dX3_leave_20 (by rw [le_pred (by omega)] at c16; unfold opLeave; rw [if_neg c16]; exact ⟨rfl, ⟨ma, 0, wl, fd, op, st, zs, ho, ba, se, lx, pe, lt, le, wa, ta, rfl, rfl, hMS, hLc, hQ⟩⟩)
set_option maxHeartbeats 4000000 in
set_option maxRecDepth 100000 in
theorem lp_has {p : Program} {l : Launch} {e : Env} {s : State} {m : MethodId} {args : Array Value} {below : List Frame} {meth : Method} {c : Code} {A : Nat → Prop} {D : va_G} {K : gCl} {ws0 : va_W} {rm : Room} {ma : Nat → Nat} {op st zs ho ba se lx cn pe lt le wa ta : Nat → Int32} {th ll B wt mh fl wl fd : Int32} {z : Nat → Nat} {sd : Nat → Int32} {ow : Nat → Nat → Int32} {r : Nat} {b : Int32} (hr10 : r < 10) (hrz : z r ≤ 20) (hzr : z r ≠ 0) (hmr : op r = 1) (hzs : zs r = nI (z r) ∧ st r = sd r ∧ rowOf se r = ow r)
    (I : gIn p s m meth c A yX3_has wsX3_has cX3_has 5 (some .int) args D vwCl (gT K) ws0)  :
    ∀ (k : Nat) (i : Nat) (H : Heap) (locs : List Loc), i + k = z r → va_P D vwCl (mW K ma th ll B wt mh fl wl fd op st zs ho ba se lx cn pe lt le wa ta) H → va_D A (mW K ma th ll B wt mh fl wl fd op st zs ho ba se lx cn pe lt le wa ta) → va_S A s.heap H locs →
    ∀ (ls : Array Slot), lv_has ls 5 [(4, .int (nI i)), (3, .int (nI (cntV (ow r) b i))), (0, .ref (ma 0)), (1, .int b), (2, .int (nI r))] →
    W p l e rm s m args below meth c H locs 0 0 (MQ below (va_Qi (fun r1 w1 => w1 = mW K ma th ll B wt mh fl wl fd op st zs ho ba se lx cn pe lt le wa ta ∧ r1 = nI (cntV (ow r) b (z r))) (gB D vwCl (gT K) A) A) args s 0 0 A) (F0 m 36 ls []) := by
  have I0 := I
  obtain ⟨hx, hb, hr, hml, hown, hts, hlocks, hnm, hA, hK, -, -, -⟩ := I
  have hown : s.vm.findClass RX3 = some m.cls := hown
  have hi_X3 : ∀ w ∈ u_ws RX3 TX3 21, w ∈ wsX3_has := by decide +kernel
  intro k
  induction k with
  | zero =>
    intro i H locs hi hP hD hS ls hl
    have hiz : i = z r := by omega
    subst hiz
    refine lv_aload_n hx hb dX3_has_36 rfl (lv_at hl 2 rfl) ?_
    refine va_get (C := RX3) (T := TX3) (N := 21) (ci := 3) hx hb hts hi_X3 hown hK hP (0) (rfl) rfl 1 (by decide) (hts (.fieldLink RX3 7 "GroupSeatsModel" "isOpen" "[Z") (by decide +kernel)) (fun _ h9 => h9) rfl dX3_has_37 ?_
    refine lv_iload_n hx hb dX3_has_40 rfl (lv_at hl 4 rfl) ?_
    refine va_zald hx hb hK hP (1) 1 (rfl) rfl (vp_in_nI (show r < 10 by omega) (by decide)) dX3_has_41 ?_
    rw [nI_clamp (n := r) (by omega), hmr]
    refine lv_if_eq (tgt := 86) hx hb dX3_has_42 (by decide) (fun c42 => ?_) (fun c42 => ?_)
    · exact absurd c42 (by decide)
    · refine lv_iload hx hb dX3_has_45 (lv_at hl 0 rfl) ?_
      refine lv_aload_n hx hb dX3_has_47 rfl (lv_at hl 2 rfl) ?_
      refine va_get (C := RX3) (T := TX3) (N := 21) (ci := 3) hx hb hts hi_X3 hown hK hP (0) (rfl) rfl 3 (by decide) (hts (.fieldLink RX3 16 "GroupSeatsModel" "size" "[I") (by decide +kernel)) (fun _ h9 => h9) rfl dX3_has_48 ?_
      refine lv_iload_n hx hb dX3_has_51 rfl (lv_at hl 4 rfl) ?_
      refine va_iald hx hb hK hP (3) 0 (rfl) rfl (vp_in_nI (show r < 10 by omega) (by decide)) dX3_has_52 ?_
      rw [nI_clamp (n := r) (by omega), hzs.1]
      refine lv_icmp_ge (tgt := 86) hx hb dX3_has_53 (by decide) (fun c53 => ?_) (fun c53 => ?_)
      · refine lv_iload_n hx hb dX3_has_86 rfl (lv_at hl 1 rfl) ?_
        exact g_iret hx hb hr hlocks (Nat.le_of_ble_eq_true rfl) (Nat.le_of_ble_eq_true rfl) hK hP hD hS dX3_has_87 (⟨rfl, rfl⟩)
      · exact absurd (nI_le (by omega) (by omega)) c53
  | succ k ih =>
    intro i H locs hi hP hD hS ls hl
    refine lv_aload_n hx hb dX3_has_36 rfl (lv_at hl 2 rfl) ?_
    refine va_get (C := RX3) (T := TX3) (N := 21) (ci := 3) hx hb hts hi_X3 hown hK hP (0) (rfl) rfl 1 (by decide) (hts (.fieldLink RX3 7 "GroupSeatsModel" "isOpen" "[Z") (by decide +kernel)) (fun _ h9 => h9) rfl dX3_has_37 ?_
    refine lv_iload_n hx hb dX3_has_40 rfl (lv_at hl 4 rfl) ?_
    refine va_zald hx hb hK hP (1) 1 (rfl) rfl (vp_in_nI (show r < 10 by omega) (by decide)) dX3_has_41 ?_
    rw [nI_clamp (n := r) (by omega), hmr]
    refine lv_if_eq (tgt := 86) hx hb dX3_has_42 (by decide) (fun c42 => ?_) (fun c42 => ?_)
    · exact absurd c42 (by decide)
    · refine lv_iload hx hb dX3_has_45 (lv_at hl 0 rfl) ?_
      refine lv_aload_n hx hb dX3_has_47 rfl (lv_at hl 2 rfl) ?_
      refine va_get (C := RX3) (T := TX3) (N := 21) (ci := 3) hx hb hts hi_X3 hown hK hP (0) (rfl) rfl 3 (by decide) (hts (.fieldLink RX3 16 "GroupSeatsModel" "size" "[I") (by decide +kernel)) (fun _ h9 => h9) rfl dX3_has_48 ?_
      refine lv_iload_n hx hb dX3_has_51 rfl (lv_at hl 4 rfl) ?_
      refine va_iald hx hb hK hP (3) 0 (rfl) rfl (vp_in_nI (show r < 10 by omega) (by decide)) dX3_has_52 ?_
      rw [nI_clamp (n := r) (by omega), hzs.1]
      refine lv_icmp_ge (tgt := 86) hx hb dX3_has_53 (by decide) (fun c53 => ?_) (fun c53 => ?_)
      · exact absurd c53 (nI_ge (by omega) (by omega))
      · refine lv_iload_n hx hb dX3_has_56 rfl (lv_at hl 1 rfl) ?_
        refine lv_aload_n hx hb dX3_has_57 rfl (lv_at hl 2 rfl) ?_
        refine va_get (C := RX3) (T := TX3) (N := 21) (ci := 3) hx hb hts hi_X3 hown hK hP (0) (rfl) rfl 6 (by decide) (hts (.fieldLink RX3 26 "GroupSeatsModel" "seats" "[I") (by decide +kernel)) (fun _ h9 => h9) rfl dX3_has_58 ?_
        refine lv_bipush (v := 20) hx hb dX3_has_61 (by decide) ?_
        refine lv_iload_n hx hb dX3_has_63 rfl (lv_at hl 4 rfl) ?_
        refine lv_imul hx hb dX3_has_64 ?_
        refine lv_iload hx hb dX3_has_65 (lv_at hl 0 rfl) ?_
        refine lv_iadd hx hb dX3_has_67 ?_
        refine va_iald hx hb hK hP (6) 0 (rfl) rfl (in_20 hr10 (show i < 20 by omega)) dX3_has_68 ?_
        refine lv_iload_n hx hb dX3_has_69 rfl (lv_at hl 3 rfl) ?_
        refine lv_icmp_ne (tgt := 77) hx hb dX3_has_70 (by decide) (fun c70 => ?_) (fun c70 => ?_)
        · refine lv_iconst (v := 0) hx hb dX3_has_77 (by decide) ?_
          refine lv_iadd hx hb dX3_has_78 ?_
          refine lv_istore_n (lv' := [(3, .int _), (4, .int _), (0, .ref _), (1, .int _), (2, .int _)]) hx hb dX3_has_79 rfl hl (by decide) rfl (fun ls hl => ?_)
          refine lv_iinc (lv' := [(4, .int _), (3, .int _), (0, .ref _), (1, .int _), (2, .int _)]) hx hb dX3_has_80 hl (k := 1) rfl rfl (by decide) rfl (fun ls hl => ?_)
          refine lv_goto (tgt := 36) hx hb dX3_has_83 (by decide) ?_
          rw [ix_20 hr10 (by omega), ← rowOf_in (g := se) (r := r) (show i < 20 by omega), hzs.2.2] at c70
          rw [g_inc] at hl
          have e1 : cntV (ow r) b (i + 1) = cntV (ow r) b i := by simp [cntV, c70]
          rw [Int32.add_zero, ← e1] at hl
          exact ih (i + 1) H locs (by omega) hP hD hS ls (lv_sub hl [0, 1, 2, 3, 4] rfl)
        · refine lv_iconst (v := 1) hx hb dX3_has_73 (by decide) ?_
          refine lv_goto (tgt := 78) hx hb dX3_has_74 (by decide) ?_
          refine lv_iadd hx hb dX3_has_78 ?_
          refine lv_istore_n (lv' := [(3, .int _), (4, .int _), (0, .ref _), (1, .int _), (2, .int _)]) hx hb dX3_has_79 rfl hl (by decide) rfl (fun ls hl => ?_)
          refine lv_iinc (lv' := [(4, .int _), (3, .int _), (0, .ref _), (1, .int _), (2, .int _)]) hx hb dX3_has_80 hl (k := 1) rfl rfl (by decide) rfl (fun ls hl => ?_)
          refine lv_goto (tgt := 36) hx hb dX3_has_83 (by decide) ?_
          rw [ix_20 hr10 (by omega), ← rowOf_in (g := se) (r := r) (show i < 20 by omega), hzs.2.2] at c70
          rw [g_inc] at hl
          have e1 : cntV (ow r) b (i + 1) = cntV (ow r) b i + 1 := by simp [cntV, c70]
          rw [nI_1, ← e1] at hl
          exact ih (i + 1) H locs (by omega) hP hD hS ls (lv_sub hl [0, 1, 2, 3, 4] rfl)
/-- a weaker end -/
theorem g_mono {p : Program} {l : Launch} {e : Env} {R : Room} {s : State} {m : MethodId} {args : Array Value} {below : List Frame} {meth : Method} {c : Code} {H : Heap} {locs : List Loc} {cells slots mc ms : Nat} {post post' : Int32 → va_W → Prop} {B : va_W → State → Prop} {A : Nat → Prop} {g : JFrame} (h : ∀ r w, post r w → post' r w) (k : W p l e R s m args below meth c H locs cells slots (MQ below (va_Qi post B A) args s mc ms A) g) : W p l e R s m args below meth c H locs cells slots (MQ below (va_Qi post' B A) args s mc ms A) g := by
  intro T hT X
  obtain ⟨t, a1, o, b1, b2, ⟨⟨r, u, b3, b4, b5⟩, b6⟩, b7⟩ := k T hT X
  exact ⟨t, a1, o, b1, b2, ⟨⟨r, u, b3, h r u b4, b5⟩, b6⟩, b7⟩
set_option maxHeartbeats 4000000 in
set_option maxRecDepth 100000 in
theorem m_has (l : Launch) (D : va_G) (K : gCl) (ma : Nat → Nat) (op st zs ho ba se lx cn pe lt le wa ta : Nat → Int32) (th wl fd : Int32) (z : Nat → Nat) (sd : Nat → Int32) (ow : Nat → Nat → Int32) (B mh : Nat) (fl : Int32) (q : List Pty) (li : List Nat) (b x : Int32) (sz : Nat) (hz : ∀ i, i < 10 → z i ≤ 20) (hB40 : B ≤ 40) (hq8 : q.length ≤ 8) (hmh6 : mh ≤ 6) (hOR : OR z ow B) (hMS : MS z sd op st zs se ow) (hLc : isL lx li) (hQ : MQr pe lt le q) : gMi l yX3_has wsX3_has ({ frames := 7, cells := 0, slots := 0, locals := 260 } : Room) D vwCl (gT K) [.ref (ma 0), .int b, .int x] (mW K ma th (nI li.length) (nI B) (nI q.length) (nI mh) fl wl fd op st zs ho ba se lx cn pe lt le wa ta) sz (RM K (ma 0) (opHas z sd ow cn B q li mh fl b x)) 0 0 := by
  refine g_of (cc := cX3_has) (maxL := 5) (ret := (some .int)) (Qc := fun A => va_Qi (RM K (ma 0) (opHas z sd ow cn B q li mh fl b x)) (gB D vwCl (gT K) A) A) (by decide) rfl (Nat.le_of_ble_eq_true rfl) ?_
  intro p e s m below meth c A ls I hl
  have I0 := I
  obtain ⟨hx, hb, hr, hml, hown, hts, hlocks, hnm, hA, hK, hP, hD, hS⟩ := I
  have hown : s.vm.findClass RX3 = some m.cls := hown
  have hl : lv_has ls 5 [(0, .ref (ma 0)), (1, .int b), (2, .int x)] := hl
  have hi_X3 : ∀ w ∈ u_ws RX3 TX3 21, w ∈ wsX3_has := by decide +kernel
  refine lv_aload_n hx hb dX3_has_0 rfl (lv_at hl 0 rfl) ?_
  refine lv_iconst (v := 0) hx hb dX3_has_1 (by decide) ?_
  refine va_put (C := RX3) (T := TX3) (N := 21) (ci := 3) (ty := .int) hx hb hts hi_X3 tyX3 tyX3_ok nmX3 hown hK hP hD hS (0) (rfl) rfl 0 (by decide) (hts (.fieldLink RX3 50 "GroupSeatsModel" "thrown" "I") (by decide +kernel)) (fun _ h9 => h9) rfl (by decide +kernel) rfl rfl (Nat.le_of_ble_eq_true rfl) dX3_has_2 (fun H locs hP hD hS => ?_)
  have hP : va_P D vwCl (mW K ma 0 (nI li.length) (nI B) (nI q.length) (nI mh) fl wl fd op st zs ho ba se lx cn pe lt le wa ta) H := hP
  have hD : va_D A (mW K ma 0 (nI li.length) (nI B) (nI q.length) (nI mh) fl wl fd op st zs ho ba se lx cn pe lt le wa ta) := hD
  refine lv_iload_n hx hb dX3_has_5 rfl (lv_at hl 1 rfl) ?_
  refine lv_iconst (v := 0) hx hb dX3_has_6 (by decide) ?_
  refine lv_aload_n hx hb dX3_has_7 rfl (lv_at hl 0 rfl) ?_
  refine va_get (C := RX3) (T := TX3) (N := 21) (ci := 3) hx hb hts hi_X3 hown hK hP (0) (rfl) rfl 9 (by decide) (hts (.fieldLink RX3 54 "GroupSeatsModel" "bookings" "I") (by decide +kernel)) (fun _ h9 => h9) rfl dX3_has_8 ?_
  refine lv_iconst (v := 1) hx hb dX3_has_11 (by decide) ?_
  refine lv_isub hx hb dX3_has_12 ?_
  refine g_calli (va_runS (As := [.int _, .int _, .int _]) (rest := []) ⟨hx, hb, hml, hown, hts⟩ (c_in l D K _ _ _ _ _) (va_cwS 3 hts gX3_has_X3_in rfl rfl rfl (by decide +kernel) ⟨(Nat.le_of_ble_eq_true rfl), (Nat.le_of_ble_eq_true rfl)⟩) (g_preS hK hP hD) rfl rfl hl.1 rfl (lv_room (Nat.le_of_ble_eq_true rfl)) dX3_has_13 ⟨Nat.zero_le _, Nat.zero_le _⟩) hD hS hA (fun r13 wv H locs hw hP hD hS => ?_)
  obtain ⟨ew, e13⟩ := hw
  rw [ew] at hP hD
  refine lv_if_eq (tgt := 29) hx hb dX3_has_16 (by decide) (fun c16 => ?_) (fun c16 => ?_)
  · simp only [e13, Classical.not_not] at c16
    refine lv_iconst (v := -1) hx hb dX3_has_29 (by decide) ?_
    exact g_iret hx hb hr hlocks (Nat.le_of_ble_eq_true rfl) (Nat.le_of_ble_eq_true rfl) hK hP hD hS dX3_has_30 (by unfold opHas; rw [if_neg (fun h => c16 (by rw [le_pred (by omega)]; exact h.1))]; exact ⟨rfl, ⟨ma, 0, wl, fd, op, st, zs, ho, ba, se, lx, pe, lt, le, wa, ta, rfl, rfl, hMS, hLc, hQ⟩⟩)
  · simp only [e13, Classical.not_not] at c16
    refine lv_iload_n hx hb dX3_has_19 rfl (lv_at hl 2 rfl) ?_
    refine lv_iconst (v := 0) hx hb dX3_has_20 (by decide) ?_
    refine lv_bipush (v := 9) hx hb dX3_has_21 (by decide) ?_
    refine g_calli (va_runS (As := [.int _, .int _, .int _]) (rest := []) ⟨hx, hb, hml, hown, hts⟩ (c_in l D K _ _ _ _ _) (va_cwS 3 hts gX3_has_X3_in rfl rfl rfl (by decide +kernel) ⟨(Nat.le_of_ble_eq_true rfl), (Nat.le_of_ble_eq_true rfl)⟩) (g_preS hK hP hD) rfl rfl hl.1 rfl (lv_room (Nat.le_of_ble_eq_true rfl)) dX3_has_23 ⟨Nat.zero_le _, Nat.zero_le _⟩) hD hS hA (fun r23 wv H locs hw hP hD hS => ?_)
    obtain ⟨ew, e23⟩ := hw
    rw [ew] at hP hD
    refine lv_if_ne (tgt := 31) hx hb dX3_has_26 (by decide) (fun c26 => ?_) (fun c26 => ?_)
    · simp only [e23, Classical.not_not] at c26
      obtain ⟨r, hr10, rfl⟩ := g_ix (n := 10) (M := 10) rfl ⟨c26.1, g_le9 c26.2⟩
      have hrz := hz r hr10
      have hxr : ixN (nI r) = r := ixN_nI (by omega)
      have hmr := hMS r hr10
      refine lv_iconst (v := 0) hx hb dX3_has_31 (by decide) ?_
      refine lv_istore_n (lv' := [(3, .int _), (0, .ref _), (1, .int _), (2, .int _)]) hx hb dX3_has_32 rfl hl (by decide) rfl (fun ls hl => ?_)
      refine lv_iconst (v := 0) hx hb dX3_has_33 (by decide) ?_
      refine lv_istore (lv' := [(4, .int _), (3, .int _), (0, .ref _), (1, .int _), (2, .int _)]) hx hb dX3_has_34 hl (by decide) rfl (fun ls hl => ?_)
      by_cases hzr : z r = 0
      · refine lv_aload_n hx hb dX3_has_36 rfl (lv_at hl 2 rfl) ?_
        refine va_get (C := RX3) (T := TX3) (N := 21) (ci := 3) hx hb hts hi_X3 hown hK hP (0) (rfl) rfl 1 (by decide) (hts (.fieldLink RX3 7 "GroupSeatsModel" "isOpen" "[Z") (by decide +kernel)) (fun _ h9 => h9) rfl dX3_has_37 ?_
        refine lv_iload_n hx hb dX3_has_40 rfl (lv_at hl 4 rfl) ?_
        refine va_zald hx hb hK hP (1) 1 (rfl) rfl (vp_in_nI (show r < 10 by omega) (by decide)) dX3_has_41 ?_
        refine lv_if_eq (tgt := 86) hx hb dX3_has_42 (by decide) (fun c42 => ?_) (fun c42 => ?_)
        · refine lv_iload_n hx hb dX3_has_86 rfl (lv_at hl 1 rfl) ?_
          exact g_iret hx hb hr hlocks (Nat.le_of_ble_eq_true rfl) (Nat.le_of_ble_eq_true rfl) hK hP hD hS dX3_has_87 (by have hc : (0 ≤ b ∧ b < nI B) ∧ inRow (nI r) := ⟨(by rw [le_pred (by omega)] at c16; exact c16), inRow_nI hr10⟩; unfold opHas; rw [if_pos hc, hxr, hzr]; exact ⟨rfl, ⟨ma, 0, wl, fd, op, st, zs, ho, ba, se, lx, pe, lt, le, wa, ta, rfl, rfl, hMS, hLc, hQ⟩⟩)
        · exact absurd (by rw [nI_clamp (n := r) (by omega), hmr.1, if_pos hzr]) c42
      · have hzs := hmr.2 hzr
        have ho1 : op r = 1 := by rw [hmr.1, if_neg hzr]
        have hc : (0 ≤ b ∧ b < nI B) ∧ inRow (nI r) := ⟨by rw [le_pred (by omega)] at c16; exact c16, inRow_nI hr10⟩
        have key := lp_has (p := p) (l := l) (e := e) (below := below) (b := b) hr10 hrz hzr ho1 hzs I0 (rm := { frames := 7, cells := 0, slots := 0, locals := 260 }) (z r) 0 _ _ (by omega) hP hD hS ls (lv_sub hl [0, 1, 2, 3, 4] rfl)
        refine g_mono (fun r1 w1 h => ?_) key
        obtain ⟨h1, h2⟩ := h
        subst h1; subst h2
        unfold opHas; rw [if_pos hc, hxr]; exact ⟨rfl, ⟨ma, 0, wl, fd, op, st, zs, ho, ba, se, lx, pe, lt, le, wa, ta, rfl, rfl, hMS, hLc, hQ⟩⟩
    · simp only [e23, Classical.not_not] at c26
      refine lv_iconst (v := -1) hx hb dX3_has_29 (by decide) ?_
      exact g_iret hx hb hr hlocks (Nat.le_of_ble_eq_true rfl) (Nat.le_of_ble_eq_true rfl) hK hP hD hS dX3_has_30 (by unfold opHas; rw [if_neg (fun h => c26 (by simp only [inRow, Int32.le_iff_toInt_le, Int32.lt_iff_toInt_lt, gl_m1, gl_0, gl_1, gl_2, gl_3, gl_5, gl_6, gl_8, gl_9, gl_10, gl_11, gl_20, gl_40, gl_60] at h ⊢; omega))]; exact ⟨rfl, ⟨ma, 0, wl, fd, op, st, zs, ho, ba, se, lx, pe, lt, le, wa, ta, rfl, rfl, hMS, hLc, hQ⟩⟩)
set_option maxHeartbeats 4000000 in
set_option maxRecDepth 100000 in
theorem m_about (l : Launch) (D : va_G) (K : gCl) (ma : Nat → Nat) (op st zs ho ba se lx cn pe lt le wa ta : Nat → Int32) (th wl fd : Int32) (z : Nat → Nat) (sd : Nat → Int32) (ow : Nat → Nat → Int32) (B mh : Nat) (fl : Int32) (q : List Pty) (li : List Nat) (x k : Int32) (sz : Nat) (hz : ∀ i, i < 10 → z i ≤ 20) (hB40 : B ≤ 40) (hq8 : q.length ≤ 8) (hmh6 : mh ≤ 6) (hOR : OR z ow B) (hMS : MS z sd op st zs se ow) (hLc : isL lx li) (hQ : MQr pe lt le q) : gMi l yX3_about wsX3_about ({ frames := 7, cells := 0, slots := 0, locals := 260 } : Room) D vwCl (gT K) [.ref (ma 0), .int x, .int k] (mW K ma th (nI li.length) (nI B) (nI q.length) (nI mh) fl wl fd op st zs ho ba se lx cn pe lt le wa ta) sz (fun _ w1 => MW K (ma 0) (z, sd, ow, cn, B, q, li, mh, fl) w1) 0 0 := by
  refine g_of (cc := cX3_about) (maxL := 3) (ret := (some .int)) (Qc := fun A => va_Qi (fun _ w1 => MW K (ma 0) (z, sd, ow, cn, B, q, li, mh, fl) w1) (gB D vwCl (gT K) A) A) (by decide) rfl (Nat.le_of_ble_eq_true rfl) ?_
  intro p e s m below meth c A ls I hl
  have I0 := I
  obtain ⟨hx, hb, hr, hml, hown, hts, hlocks, hnm, hA, hK, hP, hD, hS⟩ := I
  have hown : s.vm.findClass RX3 = some m.cls := hown
  have hl : lv_has ls 3 [(0, .ref (ma 0)), (1, .int x), (2, .int k)] := hl
  have hi_X3 : ∀ w ∈ u_ws RX3 TX3 21, w ∈ wsX3_about := by decide +kernel
  refine lv_aload_n hx hb dX3_about_0 rfl (lv_at hl 0 rfl) ?_
  refine lv_iconst (v := 0) hx hb dX3_about_1 (by decide) ?_
  refine va_put (C := RX3) (T := TX3) (N := 21) (ci := 3) (ty := .int) hx hb hts hi_X3 tyX3 tyX3_ok nmX3 hown hK hP hD hS (0) (rfl) rfl 0 (by decide) (hts (.fieldLink RX3 50 "GroupSeatsModel" "thrown" "I") (by decide +kernel)) (fun _ h9 => h9) rfl (by decide +kernel) rfl rfl (Nat.le_of_ble_eq_true rfl) dX3_about_2 (fun H locs hP hD hS => ?_)
  have hP : va_P D vwCl (mW K ma 0 (nI li.length) (nI B) (nI q.length) (nI mh) fl wl fd op st zs ho ba se lx cn pe lt le wa ta) H := hP
  have hD : va_D A (mW K ma 0 (nI li.length) (nI B) (nI q.length) (nI mh) fl wl fd op st zs ho ba se lx cn pe lt le wa ta) := hD
  refine lv_iload_n hx hb dX3_about_5 rfl (lv_at hl 1 rfl) ?_
  refine lv_iconst (v := 0) hx hb dX3_about_6 (by decide) ?_
  refine lv_bipush (v := 9) hx hb dX3_about_7 (by decide) ?_
  refine g_calli (va_runS (As := [.int _, .int _, .int _]) (rest := []) ⟨hx, hb, hml, hown, hts⟩ (c_in l D K _ _ _ _ _) (va_cwS 3 hts gX3_about_X3_in rfl rfl rfl (by decide +kernel) ⟨(Nat.le_of_ble_eq_true rfl), (Nat.le_of_ble_eq_true rfl)⟩) (g_preS hK hP hD) rfl rfl hl.1 rfl (lv_room (Nat.le_of_ble_eq_true rfl)) dX3_about_9 ⟨Nat.zero_le _, Nat.zero_le _⟩) hD hS hA (fun r9 wv H locs hw hP hD hS => ?_)
  obtain ⟨ew, e9⟩ := hw
  rw [ew] at hP hD
  refine lv_if_eq (tgt := 24) hx hb dX3_about_12 (by decide) (fun c12 => ?_) (fun c12 => ?_)
  · simp only [e9, Classical.not_not] at c12
    refine lv_iconst (v := -1) hx hb dX3_about_24 (by decide) ?_
    exact g_iret hx hb hr hlocks (Nat.le_of_ble_eq_true rfl) (Nat.le_of_ble_eq_true rfl) hK hP hD hS dX3_about_25 (⟨ma, 0, wl, fd, op, st, zs, ho, ba, se, lx, pe, lt, le, wa, ta, rfl, rfl, hMS, hLc, hQ⟩)
  · simp only [e9, Classical.not_not] at c12
    refine lv_iload_n hx hb dX3_about_15 rfl (lv_at hl 2 rfl) ?_
    refine lv_iconst (v := 0) hx hb dX3_about_16 (by decide) ?_
    refine lv_iconst (v := 3) hx hb dX3_about_17 (by decide) ?_
    refine g_calli (va_runS (As := [.int _, .int _, .int _]) (rest := []) ⟨hx, hb, hml, hown, hts⟩ (c_in l D K _ _ _ _ _) (va_cwS 3 hts gX3_about_X3_in rfl rfl rfl (by decide +kernel) ⟨(Nat.le_of_ble_eq_true rfl), (Nat.le_of_ble_eq_true rfl)⟩) (g_preS hK hP hD) rfl rfl hl.1 rfl (lv_room (Nat.le_of_ble_eq_true rfl)) dX3_about_18 ⟨Nat.zero_le _, Nat.zero_le _⟩) hD hS hA (fun r18 wv H locs hw hP hD hS => ?_)
    obtain ⟨ew, e18⟩ := hw
    rw [ew] at hP hD
    refine lv_if_ne (tgt := 26) hx hb dX3_about_21 (by decide) (fun c21 => ?_) (fun c21 => ?_)
    · obtain ⟨r, hr10, rfl⟩ := g_ix (n := 10) (M := 10) rfl ⟨c12.1, g_le9 c12.2⟩
      have hrz := hz r hr10
      have hxr : ixN (nI r) = r := ixN_nI (by omega)
      have hmr := hMS r hr10
      refine lv_aload_n hx hb dX3_about_26 rfl (lv_at hl 0 rfl) ?_
      refine va_get (C := RX3) (T := TX3) (N := 21) (ci := 3) hx hb hts hi_X3 hown hK hP (0) (rfl) rfl 1 (by decide) (hts (.fieldLink RX3 7 "GroupSeatsModel" "isOpen" "[Z") (by decide +kernel)) (fun _ h9 => h9) rfl dX3_about_27 ?_
      refine lv_iload_n hx hb dX3_about_30 rfl (lv_at hl 1 rfl) ?_
      refine va_zald hx hb hK hP (1) 1 (rfl) rfl (vp_in_nI (show r < 10 by omega) (by decide)) dX3_about_31 ?_
      refine lv_if_ne (tgt := 38) hx hb dX3_about_32 (by decide) (fun c32 => ?_) (fun c32 => ?_)
      · rw [nI_clamp (n := r) (by omega), hmr.1] at c32
        have hzr : z r ≠ 0 := fun q => c32 (by rw [if_pos q])
        have hzs := hmr.2 hzr
        refine lv_iload_n hx hb dX3_about_38 rfl (lv_at hl 2 rfl) ?_
        refine lv_if_ne (tgt := 50) hx hb dX3_about_39 (by decide) (fun c39 => ?_) (fun c39 => ?_)
        · refine lv_iload_n hx hb dX3_about_50 rfl (lv_at hl 2 rfl) ?_
          refine lv_iconst (v := 1) hx hb dX3_about_51 (by decide) ?_
          refine lv_icmp_ne (tgt := 64) hx hb dX3_about_52 (by decide) (fun c52 => ?_) (fun c52 => ?_)
          · refine lv_iload_n hx hb dX3_about_64 rfl (lv_at hl 2 rfl) ?_
            refine lv_iconst (v := 2) hx hb dX3_about_65 (by decide) ?_
            refine lv_icmp_ne (tgt := 78) hx hb dX3_about_66 (by decide) (fun c66 => ?_) (fun c66 => ?_)
            · refine lv_aload_n hx hb dX3_about_78 rfl (lv_at hl 0 rfl) ?_
              refine va_get (C := RX3) (T := TX3) (N := 21) (ci := 3) hx hb hts hi_X3 hown hK hP (0) (rfl) rfl 3 (by decide) (hts (.fieldLink RX3 16 "GroupSeatsModel" "size" "[I") (by decide +kernel)) (fun _ h9 => h9) rfl dX3_about_79 ?_
              refine lv_iload_n hx hb dX3_about_82 rfl (lv_at hl 1 rfl) ?_
              refine va_iald hx hb hK hP (3) 0 (rfl) rfl (vp_in_nI (show r < 10 by omega) (by decide)) dX3_about_83 ?_
              exact g_iret hx hb hr hlocks (Nat.le_of_ble_eq_true rfl) (Nat.le_of_ble_eq_true rfl) hK hP hD hS dX3_about_84 (⟨ma, 0, wl, fd, op, st, zs, ho, ba, se, lx, pe, lt, le, wa, ta, rfl, rfl, hMS, hLc, hQ⟩)
            · refine lv_aload_n hx hb dX3_about_69 rfl (lv_at hl 0 rfl) ?_
              refine va_get (C := RX3) (T := TX3) (N := 21) (ci := 3) hx hb hts hi_X3 hown hK hP (0) (rfl) rfl 5 (by decide) (hts (.fieldLink RX3 23 "GroupSeatsModel" "back" "[I") (by decide +kernel)) (fun _ h9 => h9) rfl dX3_about_70 ?_
              refine lv_iload_n hx hb dX3_about_73 rfl (lv_at hl 1 rfl) ?_
              refine va_iald hx hb hK hP (5) 0 (rfl) rfl (vp_in_nI (show r < 10 by omega) (by decide)) dX3_about_74 ?_
              refine lv_goto (tgt := 84) hx hb dX3_about_75 (by decide) ?_
              exact g_iret hx hb hr hlocks (Nat.le_of_ble_eq_true rfl) (Nat.le_of_ble_eq_true rfl) hK hP hD hS dX3_about_84 (⟨ma, 0, wl, fd, op, st, zs, ho, ba, se, lx, pe, lt, le, wa, ta, rfl, rfl, hMS, hLc, hQ⟩)
          · refine lv_aload_n hx hb dX3_about_55 rfl (lv_at hl 0 rfl) ?_
            refine va_get (C := RX3) (T := TX3) (N := 21) (ci := 3) hx hb hts hi_X3 hown hK hP (0) (rfl) rfl 4 (by decide) (hts (.fieldLink RX3 20 "GroupSeatsModel" "holds" "[I") (by decide +kernel)) (fun _ h9 => h9) rfl dX3_about_56 ?_
            refine lv_iload_n hx hb dX3_about_59 rfl (lv_at hl 1 rfl) ?_
            refine va_iald hx hb hK hP (4) 0 (rfl) rfl (vp_in_nI (show r < 10 by omega) (by decide)) dX3_about_60 ?_
            refine lv_goto (tgt := 84) hx hb dX3_about_61 (by decide) ?_
            exact g_iret hx hb hr hlocks (Nat.le_of_ble_eq_true rfl) (Nat.le_of_ble_eq_true rfl) hK hP hD hS dX3_about_84 (⟨ma, 0, wl, fd, op, st, zs, ho, ba, se, lx, pe, lt, le, wa, ta, rfl, rfl, hMS, hLc, hQ⟩)
        · refine lv_aload_n hx hb dX3_about_42 rfl (lv_at hl 0 rfl) ?_
          refine lv_iload_n hx hb dX3_about_43 rfl (lv_at hl 1 rfl) ?_
          refine g_calli (va_runV (As := [.int _]) (rest := []) ⟨hx, hb, hml, hown, hts⟩ (m_free l D K ma op st zs ho ba se lx cn pe lt le wa ta 0 (nI li.length) (nI B) (nI q.length) (nI mh) fl wl fd r (z r) _ hr10 hrz hzs.1) (cwV 1 hts gX3_about_X3_free rfl rfl rfl (by decide +kernel) ⟨(Nat.le_of_ble_eq_true rfl), (Nat.le_of_ble_eq_true rfl)⟩) (g_preV hK hP hD (ci := 3) (q0 := 0) rfl (rfl)) rfl rfl hl.1 rfl (lv_room (Nat.le_of_ble_eq_true rfl)) dX3_about_44 ⟨Nat.zero_le _, Nat.zero_le _⟩) hD hS hA (fun r44 wv H locs hw hP hD hS => ?_)
          obtain ⟨ew, er⟩ := hw
          rw [ew] at hP hD
          rw [hzs.2.2] at er
          rw [er]
          refine lv_goto (tgt := 84) hx hb dX3_about_47 (by decide) ?_
          exact g_iret hx hb hr hlocks (Nat.le_of_ble_eq_true rfl) (Nat.le_of_ble_eq_true rfl) hK hP hD hS dX3_about_84 (⟨ma, 0, wl, fd, op, st, zs, ho, ba, se, lx, pe, lt, le, wa, ta, rfl, rfl, hMS, hLc, hQ⟩)
      · rw [nI_clamp (n := r) (by omega), hmr.1] at c32
        have hzr : z r = 0 := Classical.not_not.mp (fun q => by rw [if_neg q] at c32; exact absurd c32 (by decide))
        refine lv_bipush (v := -2) hx hb dX3_about_35 (by decide) ?_
        exact g_iret hx hb hr hlocks (Nat.le_of_ble_eq_true rfl) (Nat.le_of_ble_eq_true rfl) hK hP hD hS dX3_about_37 (⟨ma, 0, wl, fd, op, st, zs, ho, ba, se, lx, pe, lt, le, wa, ta, rfl, rfl, hMS, hLc, hQ⟩)
    · refine lv_iconst (v := -1) hx hb dX3_about_24 (by decide) ?_
      exact g_iret hx hb hr hlocks (Nat.le_of_ble_eq_true rfl) (Nat.le_of_ble_eq_true rfl) hK hP hD hS dX3_about_25 (⟨ma, 0, wl, fd, op, st, zs, ho, ba, se, lx, pe, lt, le, wa, ta, rfl, rfl, hMS, hLc, hQ⟩)
set_option maxHeartbeats 4000000 in
set_option maxRecDepth 100000 in
theorem lp_told {p : Program} {l : Launch} {e : Env} {s : State} {m : MethodId} {args : Array Value} {below : List Frame} {meth : Method} {c : Code} {A : Nat → Prop} {D : va_G} {K : gCl} {ws0 : va_W} {rm : Room} {ma : Nat → Nat} {op st zs ho ba se lx cn pe lt le wa ta : Nat → Int32} {wl fd : Int32} {z : Nat → Nat} {sd : Nat → Int32} {ow : Nat → Nat → Int32} {B mh : Nat} {fl : Int32} {q : List Pty} {li : List Nat} {x : Int32} (hMS : MS z sd op st zs se ow) (hLc : isL lx li) (hQ : MQr pe lt le q)
    (I : gIn p s m meth c A yX3_told wsX3_told cX3_told 4 (some .int) args D vwCl (gT K) ws0)  :
    ∀ (k : Nat) (j : Nat) (H : Heap) (locs : List Loc), j + k = 10 → va_P D vwCl (mW K ma 0 (nI li.length) (nI B) (nI q.length) (nI mh) fl wl fd op st zs ho ba se lx cn pe lt le wa ta) H → va_D A (mW K ma 0 (nI li.length) (nI B) (nI q.length) (nI mh) fl wl fd op st zs ho ba se lx cn pe lt le wa ta) → va_S A s.heap H locs →
    ∀ (ls : Array Slot), lv_has ls 4 [(3, .int (nI j)), (2, .int (nI (cntO z j))), (0, .ref (ma 0)), (1, .int x)] →
    W p l e rm s m args below meth c H locs 0 0 (MQ below (va_Qi (RM K (ma 0) (opTold z sd ow cn B q li mh fl x)) (gB D vwCl (gT K) A) A) args s 0 0 A) (F0 m 9 ls []) := by
  have I0 := I
  obtain ⟨hx, hb, hr, hml, hown, hts, hlocks, hnm, hA, hK, -, -, -⟩ := I
  have hown : s.vm.findClass RX3 = some m.cls := hown
  have hi_X3 : ∀ w ∈ u_ws RX3 TX3 21, w ∈ wsX3_told := by decide +kernel
  intro k
  induction k with
  | zero =>
    intro j H locs hi hP hD hS ls hl
    have hj10 : j = 10 := by omega
    subst hj10
    refine lv_iload_n hx hb dX3_told_9 rfl (lv_at hl 0 rfl) ?_
    refine lv_bipush (v := 10) hx hb dX3_told_10 (by decide) ?_
    refine lv_icmp_ge (tgt := 38) hx hb dX3_told_12 (by decide) (fun c12 => ?_) (fun c12 => ?_)
    · refine lv_iload_n hx hb dX3_told_38 rfl (lv_at hl 3 rfl) ?_
      rcases g_sw x 5 (by decide) with hk | ⟨i, hi, rfl⟩
      · refine lv_tableOut (tgt := 103) hx hb dX3_told_39 hk (by decide) ?_
        refine lv_iconst (v := -1) hx hb dX3_told_103 (by decide) ?_
        exact g_iret hx hb hr hlocks (Nat.le_of_ble_eq_true rfl) (Nat.le_of_ble_eq_true rfl) hK hP hD hS dX3_told_104 (by obtain ⟨q0, q1, q2, q3, q4, q5⟩ := told_out hk; unfold opTold; rw [if_neg q0, if_neg q1, if_neg q2, if_neg q3, if_neg q4, if_neg q5]; exact ⟨rfl, ⟨ma, 0, wl, fd, op, st, zs, ho, ba, se, lx, pe, lt, le, wa, ta, rfl, rfl, hMS, hLc, hQ⟩⟩)
      · rcases (show i = 0 ∨ i = 1 ∨ i = 2 ∨ i = 3 ∨ i = 4 ∨ i = 5 by omega) with rfl | rfl | rfl | rfl | rfl | rfl
        · refine lv_tableIn (off := 37) (tgt := 76) hx hb dX3_told_39 (by decide) (by decide) rfl (by decide) ?_
          refine lv_aload_n hx hb dX3_told_76 rfl (lv_at hl 2 rfl) ?_
          refine va_get (C := RX3) (T := TX3) (N := 21) (ci := 3) hx hb hts hi_X3 hown hK hP (0) (rfl) rfl 9 (by decide) (hts (.fieldLink RX3 54 "GroupSeatsModel" "bookings" "I") (by decide +kernel)) (fun _ h9 => h9) rfl dX3_told_77 ?_
          exact g_iret hx hb hr hlocks (Nat.le_of_ble_eq_true rfl) (Nat.le_of_ble_eq_true rfl) hK hP hD hS dX3_told_80 (by unfold opTold; rw [if_pos (by decide)]; exact ⟨rfl, ⟨ma, 0, wl, fd, op, st, zs, ho, ba, se, lx, pe, lt, le, wa, ta, rfl, rfl, hMS, hLc, hQ⟩⟩)
        · refine lv_tableIn (off := 42) (tgt := 81) hx hb dX3_told_39 (by decide) (by decide) rfl (by decide) ?_
          refine lv_aload_n hx hb dX3_told_81 rfl (lv_at hl 2 rfl) ?_
          refine va_get (C := RX3) (T := TX3) (N := 21) (ci := 3) hx hb hts hi_X3 hown hK hP (0) (rfl) rfl 14 (by decide) (hts (.fieldLink RX3 84 "GroupSeatsModel" "waits" "I") (by decide +kernel)) (fun _ h9 => h9) rfl dX3_told_82 ?_
          exact g_iret hx hb hr hlocks (Nat.le_of_ble_eq_true rfl) (Nat.le_of_ble_eq_true rfl) hK hP hD hS dX3_told_85 (by unfold opTold; rw [if_neg (by decide)]; rw [if_pos (by decide)]; exact ⟨rfl, ⟨ma, 0, wl, fd, op, st, zs, ho, ba, se, lx, pe, lt, le, wa, ta, rfl, rfl, hMS, hLc, hQ⟩⟩)
        · refine lv_tableIn (off := 47) (tgt := 86) hx hb dX3_told_39 (by decide) (by decide) rfl (by decide) ?_
          refine lv_aload_n hx hb dX3_told_86 rfl (lv_at hl 2 rfl) ?_
          refine va_get (C := RX3) (T := TX3) (N := 21) (ci := 3) hx hb hts hi_X3 hown hK hP (0) (rfl) rfl 15 (by decide) (hts (.fieldLink RX3 74 "GroupSeatsModel" "most" "I") (by decide +kernel)) (fun _ h9 => h9) rfl dX3_told_87 ?_
          exact g_iret hx hb hr hlocks (Nat.le_of_ble_eq_true rfl) (Nat.le_of_ble_eq_true rfl) hK hP hD hS dX3_told_90 (by unfold opTold; rw [if_neg (by decide)]; rw [if_neg (by decide)]; rw [if_pos (by decide)]; exact ⟨rfl, ⟨ma, 0, wl, fd, op, st, zs, ho, ba, se, lx, pe, lt, le, wa, ta, rfl, rfl, hMS, hLc, hQ⟩⟩)
        · refine lv_tableIn (off := 52) (tgt := 91) hx hb dX3_told_39 (by decide) (by decide) rfl (by decide) ?_
          refine lv_aload_n hx hb dX3_told_91 rfl (lv_at hl 2 rfl) ?_
          refine va_get (C := RX3) (T := TX3) (N := 21) (ci := 3) hx hb hts hi_X3 hown hK hP (0) (rfl) rfl 16 (by decide) (hts (.fieldLink RX3 81 "GroupSeatsModel" "failures" "I") (by decide +kernel)) (fun _ h9 => h9) rfl dX3_told_92 ?_
          exact g_iret hx hb hr hlocks (Nat.le_of_ble_eq_true rfl) (Nat.le_of_ble_eq_true rfl) hK hP hD hS dX3_told_95 (by unfold opTold; rw [if_neg (by decide)]; rw [if_neg (by decide)]; rw [if_neg (by decide)]; rw [if_pos (by decide)]; exact ⟨rfl, ⟨ma, 0, wl, fd, op, st, zs, ho, ba, se, lx, pe, lt, le, wa, ta, rfl, rfl, hMS, hLc, hQ⟩⟩)
        · refine lv_tableIn (off := 57) (tgt := 96) hx hb dX3_told_39 (by decide) (by decide) rfl (by decide) ?_
          refine lv_aload_n hx hb dX3_told_96 rfl (lv_at hl 2 rfl) ?_
          refine va_get (C := RX3) (T := TX3) (N := 21) (ci := 3) hx hb hts hi_X3 hown hK hP (0) (rfl) rfl 8 (by decide) (hts (.fieldLink RX3 105 "GroupSeatsModel" "listed" "I") (by decide +kernel)) (fun _ h9 => h9) rfl dX3_told_97 ?_
          exact g_iret hx hb hr hlocks (Nat.le_of_ble_eq_true rfl) (Nat.le_of_ble_eq_true rfl) hK hP hD hS dX3_told_100 (by unfold opTold; rw [if_neg (by decide)]; rw [if_neg (by decide)]; rw [if_neg (by decide)]; rw [if_neg (by decide)]; rw [if_pos (by decide)]; exact ⟨rfl, ⟨ma, 0, wl, fd, op, st, zs, ho, ba, se, lx, pe, lt, le, wa, ta, rfl, rfl, hMS, hLc, hQ⟩⟩)
        · refine lv_tableIn (off := 62) (tgt := 101) hx hb dX3_told_39 (by decide) (by decide) rfl (by decide) ?_
          refine lv_iload_n hx hb dX3_told_101 rfl (lv_at hl 1 rfl) ?_
          exact g_iret hx hb hr hlocks (Nat.le_of_ble_eq_true rfl) (Nat.le_of_ble_eq_true rfl) hK hP hD hS dX3_told_102 (by unfold opTold; rw [if_neg (by decide)]; rw [if_neg (by decide)]; rw [if_neg (by decide)]; rw [if_neg (by decide)]; rw [if_neg (by decide)]; rw [if_pos (by decide)]; exact ⟨rfl, ⟨ma, 0, wl, fd, op, st, zs, ho, ba, se, lx, pe, lt, le, wa, ta, rfl, rfl, hMS, hLc, hQ⟩⟩)
    · exact absurd (nI_le (a := 10) (by omega) (by omega)) c12
  | succ k ih =>
    intro j H locs hi hP hD hS ls hl
    refine lv_iload_n hx hb dX3_told_9 rfl (lv_at hl 0 rfl) ?_
    refine lv_bipush (v := 10) hx hb dX3_told_10 (by decide) ?_
    refine lv_icmp_ge (tgt := 38) hx hb dX3_told_12 (by decide) (fun c12 => ?_) (fun c12 => ?_)
    · exact absurd c12 (nI_ge (b := 10) (by omega) (by decide))
    · refine lv_iload_n hx hb dX3_told_15 rfl (lv_at hl 1 rfl) ?_
      refine lv_aload_n hx hb dX3_told_16 rfl (lv_at hl 2 rfl) ?_
      refine va_get (C := RX3) (T := TX3) (N := 21) (ci := 3) hx hb hts hi_X3 hown hK hP (0) (rfl) rfl 1 (by decide) (hts (.fieldLink RX3 7 "GroupSeatsModel" "isOpen" "[Z") (by decide +kernel)) (fun _ h9 => h9) rfl dX3_told_17 ?_
      refine lv_iload_n hx hb dX3_told_20 rfl (lv_at hl 0 rfl) ?_
      refine va_zald hx hb hK hP (1) 1 (rfl) rfl (vp_in_nI (show j < 10 by omega) (by decide)) dX3_told_21 ?_
      refine lv_if_eq (tgt := 29) hx hb dX3_told_22 (by decide) (fun c22 => ?_) (fun c22 => ?_)
      · refine lv_iconst (v := 0) hx hb dX3_told_29 (by decide) ?_
        refine lv_iadd hx hb dX3_told_30 ?_
        refine lv_istore_n (lv' := [(2, .int _), (3, .int _), (0, .ref _), (1, .int _)]) hx hb dX3_told_31 rfl hl (by decide) rfl (fun ls hl => ?_)
        refine lv_iinc (lv' := [(3, .int _), (2, .int _), (0, .ref _), (1, .int _)]) hx hb dX3_told_32 hl (k := 1) rfl rfl (by decide) rfl (fun ls hl => ?_)
        refine lv_goto (tgt := 9) hx hb dX3_told_35 (by decide) ?_
        rw [nI_clamp (n := j) (by omega), (hMS j (by omega)).1] at c22
        rw [g_inc] at hl
        have hzj : z j = 0 := Classical.not_not.mp (fun q9 => by rw [if_neg q9] at c22; exact absurd c22 (by decide))
        have e1 : cntO z (j + 1) = cntO z j := by simp [cntO, hzj]
        rw [Int32.add_zero, ← e1] at hl
        exact ih (j + 1) H locs (by omega) hP hD hS ls (lv_sub hl [0, 1, 2, 3] rfl)
      · refine lv_iconst (v := 1) hx hb dX3_told_25 (by decide) ?_
        refine lv_goto (tgt := 30) hx hb dX3_told_26 (by decide) ?_
        refine lv_iadd hx hb dX3_told_30 ?_
        refine lv_istore_n (lv' := [(2, .int _), (3, .int _), (0, .ref _), (1, .int _)]) hx hb dX3_told_31 rfl hl (by decide) rfl (fun ls hl => ?_)
        refine lv_iinc (lv' := [(3, .int _), (2, .int _), (0, .ref _), (1, .int _)]) hx hb dX3_told_32 hl (k := 1) rfl rfl (by decide) rfl (fun ls hl => ?_)
        refine lv_goto (tgt := 9) hx hb dX3_told_35 (by decide) ?_
        rw [nI_clamp (n := j) (by omega), (hMS j (by omega)).1] at c22
        rw [g_inc] at hl
        have hzj : z j ≠ 0 := fun q9 => c22 (by rw [if_pos q9])
        have e1 : cntO z (j + 1) = cntO z j + 1 := by simp [cntO, hzj]
        rw [nI_1, ← e1] at hl
        exact ih (j + 1) H locs (by omega) hP hD hS ls (lv_sub hl [0, 1, 2, 3] rfl)
set_option maxHeartbeats 4000000 in
set_option maxRecDepth 100000 in
theorem m_told (l : Launch) (D : va_G) (K : gCl) (ma : Nat → Nat) (op st zs ho ba se lx cn pe lt le wa ta : Nat → Int32) (th wl fd : Int32) (z : Nat → Nat) (sd : Nat → Int32) (ow : Nat → Nat → Int32) (B mh : Nat) (fl : Int32) (q : List Pty) (li : List Nat) (x : Int32) (sz : Nat) (hz : ∀ i, i < 10 → z i ≤ 20) (hB40 : B ≤ 40) (hq8 : q.length ≤ 8) (hmh6 : mh ≤ 6) (hOR : OR z ow B) (hMS : MS z sd op st zs se ow) (hLc : isL lx li) (hQ : MQr pe lt le q) : gMi l yX3_told wsX3_told ({ frames := 7, cells := 0, slots := 0, locals := 260 } : Room) D vwCl (gT K) [.ref (ma 0), .int x] (mW K ma th (nI li.length) (nI B) (nI q.length) (nI mh) fl wl fd op st zs ho ba se lx cn pe lt le wa ta) sz (RM K (ma 0) (opTold z sd ow cn B q li mh fl x)) 0 0 := by
  refine g_of (cc := cX3_told) (maxL := 4) (ret := (some .int)) (Qc := fun A => va_Qi (RM K (ma 0) (opTold z sd ow cn B q li mh fl x)) (gB D vwCl (gT K) A) A) (by decide) rfl (Nat.le_of_ble_eq_true rfl) ?_
  intro p e s m below meth c A ls I hl
  have I0 := I
  obtain ⟨hx, hb, hr, hml, hown, hts, hlocks, hnm, hA, hK, hP, hD, hS⟩ := I
  have hown : s.vm.findClass RX3 = some m.cls := hown
  have hl : lv_has ls 4 [(0, .ref (ma 0)), (1, .int x)] := hl
  have hi_X3 : ∀ w ∈ u_ws RX3 TX3 21, w ∈ wsX3_told := by decide +kernel
  refine lv_aload_n hx hb dX3_told_0 rfl (lv_at hl 0 rfl) ?_
  refine lv_iconst (v := 0) hx hb dX3_told_1 (by decide) ?_
  refine va_put (C := RX3) (T := TX3) (N := 21) (ci := 3) (ty := .int) hx hb hts hi_X3 tyX3 tyX3_ok nmX3 hown hK hP hD hS (0) (rfl) rfl 0 (by decide) (hts (.fieldLink RX3 50 "GroupSeatsModel" "thrown" "I") (by decide +kernel)) (fun _ h9 => h9) rfl (by decide +kernel) rfl rfl (Nat.le_of_ble_eq_true rfl) dX3_told_2 (fun H locs hP hD hS => ?_)
  have hP : va_P D vwCl (mW K ma 0 (nI li.length) (nI B) (nI q.length) (nI mh) fl wl fd op st zs ho ba se lx cn pe lt le wa ta) H := hP
  have hD : va_D A (mW K ma 0 (nI li.length) (nI B) (nI q.length) (nI mh) fl wl fd op st zs ho ba se lx cn pe lt le wa ta) := hD
  refine lv_iconst (v := 0) hx hb dX3_told_5 (by decide) ?_
  refine lv_istore_n (lv' := [(2, .int _), (0, .ref _), (1, .int _)]) hx hb dX3_told_6 rfl hl (by decide) rfl (fun ls hl => ?_)
  refine lv_iconst (v := 0) hx hb dX3_told_7 (by decide) ?_
  refine lv_istore_n (lv' := [(3, .int _), (2, .int _), (0, .ref _), (1, .int _)]) hx hb dX3_told_8 rfl hl (by decide) rfl (fun ls hl => ?_)
  exact lp_told hMS hLc hQ I0 10 0 _ _ (by omega) hP hD hS ls (lv_sub hl [0, 1, 2, 3] rfl)
