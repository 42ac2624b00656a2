section HW3
variable {K : gCl} {a : Nat → Nat → Nat} {z : Nat → Nat} {sd ho bk : Nat → Int32} {ow : Nat → Nat → Int32} {pl pn pm : Nat → Int32} {nm : Nat → Nat → Int32} {cn : Nat → Int32} {co : Nat} {qu : Nat → Nat} {B wt mh fl : Int32}
theorem hW_setPl {j : Nat} {l' : Int32} (hj : j < 9) : (hW K a z sd ho bk ow pl pn pm nm cn co qu B wt mh fl).set (2 * j + 20 + 4) (a 3 j, gPar (a 4 j) l' (pn j) (pm j)) = hW K a z sd ho bk ow (va_up pl j l') pn pm nm cn co qu B wt mh fl := by
  rw [hW_setPar hj, va_up_id, va_up_id]
theorem hW_setPn {j : Nat} {l' : Int32} (hj : j < 9) : (hW K a z sd ho bk ow pl pn pm nm cn co qu B wt mh fl).set (2 * j + 20 + 4) (a 3 j, gPar (a 4 j) (pl j) l' (pm j)) = hW K a z sd ho bk ow pl (va_up pn j l') pm nm cn co qu B wt mh fl := by
  rw [hW_setPar hj, va_up_id, va_up_id]
theorem hW_setPm {j : Nat} {l' : Int32} (hj : j < 9) : (hW K a z sd ho bk ow pl pn pm nm cn co qu B wt mh fl).set (2 * j + 20 + 4) (a 3 j, gPar (a 4 j) (pl j) (pn j) l') = hW K a z sd ho bk ow pl pn (va_up pm j l') nm cn co qu B wt mh fl := by
  rw [hW_setPar hj, va_up_id, va_up_id]
end HW3
theorem PR_l {pl pn pm : Nat → Int32} {nm : Nat → Nat → Int32} {c j : Nat} {P : Pty} {l' : Int32} (h : PR pl pn pm nm j P) (hj : j ≠ c) : PR (va_up pl c l') pn pm nm j P := ⟨by rw [va_up_ne _ _ hj]; exact h.1, h.2⟩
theorem PR_n {pl pn pm : Nat → Int32} {nm : Nat → Nat → Int32} {c j : Nat} {P : Pty} {n' m' : Int32} (h : PR pl pn pm nm j P) (hj : j ≠ c) : PR pl (va_up pn c n') (va_up pm c m') nm j P := ⟨h.1, by rw [va_up_ne _ _ hj]; exact h.2.1, by rw [va_up_ne _ _ hj]; exact h.2.2.1, h.2.2.2⟩
theorem PQ_l {pl pn pm : Nat → Int32} {nm : Nat → Nat → Int32} {qu : Nat → Nat} {co : Nat} {q : List Pty} {l' : Int32} (hM : PM qu co) (hq : q.length ≤ 8) (h : PQ pl pn pm nm qu 0 q) : PQ (va_up pl co l') pn pm nm qu 0 q := fun i P hi => by
  have hl := (List.getElem?_eq_some_iff.mp hi).1
  exact PR_l (h i P hi) (hM.2.2.2 _ (by omega))
theorem PQ_n {pl pn pm : Nat → Int32} {nm : Nat → Nat → Int32} {qu : Nat → Nat} {co : Nat} {q : List Pty} {n' m' : Int32} (hM : PM qu co) (hq : q.length ≤ 8) (h : PQ pl pn pm nm qu 0 q) : PQ pl (va_up pn co n') (va_up pm co m') nm qu 0 q := fun i P hi => by
  have hl := (List.getElem?_eq_some_iff.mp hi).1
  exact PR_n (h i P hi) (hM.2.2.2 _ (by omega))
theorem PM_que {qu : Nat → Nat} {co n : Nat} (h : PM qu co) (hn : n < 8) : PM (va_up qu n co) (qu n) := by
  obtain ⟨h1, h2, h3, h4⟩ := h
  refine ⟨fun i hi => ?_, h1 n hn, fun i k hi hk e => ?_, fun i hi => ?_⟩
  · by_cases e : i = n
    · subst e; rw [va_up_self]; exact h2
    · rw [va_up_ne _ _ e]; exact h1 i hi
  · by_cases e1 : i = n <;> by_cases e2 : k = n
    · omega
    · subst e1; rw [va_up_self, va_up_ne _ _ e2] at e; exact absurd e.symm (h4 k hk)
    · subst e2; rw [va_up_self, va_up_ne _ _ e1] at e; exact absurd e (h4 i hi)
    · rw [va_up_ne _ _ e1, va_up_ne _ _ e2] at e; exact h3 i k hi hk e
  · by_cases e : i = n
    · subst e; rw [va_up_self]; exact fun q => h4 i hi q.symm
    · rw [va_up_ne _ _ e]; exact fun q => e (h3 i n hi hn q)
theorem PQ_que {pl pn pm : Nat → Int32} {nm : Nat → Nat → Int32} {qu : Nat → Nat} {co : Nat} {q : List Pty} {P : Pty} (hM : PM qu co) (hq : q.length < 8) (h : PQ pl pn pm nm qu 0 q) (hP : PR pl pn pm nm co P) {l' : Int32} : PQ (va_up pl (qu q.length) l') pn pm nm (va_up qu q.length co) 0 (q ++ [P]) := fun i Q hi => by
  rw [Nat.zero_add]
  rcases Nat.lt_or_ge i q.length with c | c
  · rw [List.getElem?_append_left c] at hi
    rw [va_up_ne _ _ (by omega)]
    have := h i Q hi
    rw [Nat.zero_add] at this
    exact PR_l this (fun e => by have := hM.2.2.1 i q.length (by omega) hq e; omega)
  · have hl := (List.getElem?_eq_some_iff.mp hi).1
    rw [List.length_append, List.length_singleton] at hl
    have e : i = q.length := by omega
    rw [e, List.getElem?_append_right (Nat.le_refl _), Nat.sub_self] at hi
    cases hi
    rw [e, va_up_self]
    exact PR_l hP (fun e => hM.2.2.2 _ hq e.symm)
/-- freeing a booking's seats row by row -/
def fo (z : Nat → Nat) (ow : Nat → Nat → Int32) (x : Int32) (n : Nat) : Nat → Nat → Int32 := fun i => if i < n then freeV (ow i) x (z i) else ow i
theorem fo_0 (z : Nat → Nat) (ow : Nat → Nat → Int32) (x : Int32) : fo z ow x 0 = ow := by funext i; simp [fo]
theorem fo_at (z : Nat → Nat) (ow : Nat → Nat → Int32) (x : Int32) (n : Nat) : fo z ow x n n = ow n := by simp [fo]
theorem fo_up (z : Nat → Nat) (ow : Nat → Nat → Int32) (x : Int32) (n : Nat) : va_up (fo z ow x n) n (freeV (ow n) x (z n)) = fo z ow x (n + 1) := by
  funext i
  by_cases h : i = n
  · subst h; simp [fo, va_up]
  · by_cases h2 : i < n
    · simp [fo, va_up, h, h2, show i < n + 1 by omega]
    · simp [fo, va_up, h, h2, show ¬ i < n + 1 by omega]
/-- the queue moves up -/
def shf (qu : Nat → Nat) (k i : Nat) : Nat → Nat := fun t => if k ≤ t ∧ t < i then qu (t + 1) else qu t
theorem shf_k (qu : Nat → Nat) (k : Nat) : shf qu k k = qu := by funext t; simp [shf]; omega
theorem shf_next (qu : Nat → Nat) {k i : Nat} : shf qu k i (i + 1) = qu (i + 1) := by simp only [shf]; rw [if_neg (by omega)]
theorem shf_up {qu : Nat → Nat} {k i : Nat} (hk : k ≤ i) : va_up (shf qu k i) i (qu (i + 1)) = shf qu k (i + 1) := by
  funext t
  by_cases h : t = i
  · subst h; simp [shf, va_up, hk]
  · by_cases h1 : k ≤ t <;> by_cases h2 : t < i
    · simp [shf, va_up, h, h1, h2, show t < i + 1 by omega]
    · simp [shf, va_up, h, h1, h2, show ¬ t < i + 1 by omega]
    · simp [shf, va_up, h, h1]
    · simp [shf, va_up, h, h1]
def rot (qu : Nat → Nat) (k n : Nat) : Nat → Nat := va_up (shf qu k n) n (qu k)
theorem rot_eq {qu : Nat → Nat} {k n : Nat} (t : Nat) : ∃ t', rot qu k n t = qu t' ∧ ((t = n ∧ t' = k) ∨ (t ≠ n ∧ k ≤ t ∧ t < n ∧ t' = t + 1) ∨ (t ≠ n ∧ ¬ (k ≤ t ∧ t < n) ∧ t' = t)) := by
  by_cases h : t = n
  · subst h; exact ⟨k, by simp [rot, va_up], Or.inl ⟨rfl, rfl⟩⟩
  · by_cases h1 : k ≤ t ∧ t < n
    · exact ⟨t + 1, by simp [rot, va_up, h, shf, h1], Or.inr (Or.inl ⟨h, h1.1, h1.2, rfl⟩)⟩
    · exact ⟨t, by rw [rot, va_up_ne _ _ h, shf, if_neg h1], Or.inr (Or.inr ⟨h, h1, rfl⟩)⟩
theorem PM_rot {qu : Nat → Nat} {co k n : Nat} (h : PM qu co) (hk : k ≤ n) (hn : n < 8) : PM (rot qu k n) co := by
  obtain ⟨h1, h2, h3, h4⟩ := h
  refine ⟨fun i hi => ?_, h2, fun i j hi hj e => ?_, fun i hi => ?_⟩
  · obtain ⟨t, e, c⟩ := rot_eq (qu := qu) (k := k) (n := n) i
    rw [e]; exact h1 t (by omega)
  · obtain ⟨t, e1, c1⟩ := rot_eq (qu := qu) (k := k) (n := n) i
    obtain ⟨u, e2, c2⟩ := rot_eq (qu := qu) (k := k) (n := n) j
    rw [e1, e2] at e
    have := h3 t u (by omega) (by omega) e
    omega
  · obtain ⟨t, e, c⟩ := rot_eq (qu := qu) (k := k) (n := n) i
    rw [e]; exact h4 t (by omega)
theorem PQ_rot {pl pn pm : Nat → Int32} {nm : Nat → Nat → Int32} {qu : Nat → Nat} {q : List Pty} {k : Nat} (hk : k < q.length) (h : PQ pl pn pm nm qu 0 q) : PQ pl pn pm nm (rot qu k (q.length - 1)) 0 (q.eraseIdx k) := fun i P hi => by
  have hl := (List.getElem?_eq_some_iff.mp hi).1
  rw [List.length_eraseIdx_of_lt hk] at hl
  rw [Nat.zero_add]
  obtain ⟨t, e, c⟩ := rot_eq (qu := qu) (k := k) (n := q.length - 1) i
  rw [e]
  rw [List.getElem?_eraseIdx] at hi
  split at hi
  · have := h i P hi
    rw [Nat.zero_add] at this
    rw [show t = i by omega]
    exact this
  · have := h (i + 1) P hi
    rw [Nat.zero_add] at this
    rw [show t = i + 1 by omega]
    exact this
set_option maxHeartbeats 4000000 in
set_option maxRecDepth 100000 in
theorem h_open (l : Launch) (D : va_G) (K : gCl) (a : Nat → Nat → Nat) (z : Nat → Nat) (sd ho bk : Nat → Int32) (ow : Nat → Nat → Int32) (pl pn pm : Nat → Int32) (nm : Nat → Nat → Int32) (cn : Nat → Int32) (co : Nat) (qu : Nat → Nat) (B mh : Nat) (fl : Int32) (q : List Pty) (li : List Nat) (x n : Int32) (sz : Nat) (hz : ∀ i, i < 10 → z i ≤ 20) (hB40 : B ≤ 40) (hq8 : q.length ≤ 8) (hmh6 : mh ≤ 6) (hM : PM qu co) (hPs : PQ pl pn pm nm qu 0 q) (hlc : pl co = nI li.length) (hLc : isL (nm co) li) : gMi l yX2_open wsX2_open ({ frames := 14, cells := 0, slots := 0, locals := 420 } : Room) D vwCl (gT K) [.ref (a 0 0), .int x, .int n] (hW K a z sd ho bk ow pl pn pm nm cn co qu (nI B) (nI q.length) (nI mh) fl) sz (RP K (a 0 0) (opOpen z sd ow cn B q li mh fl x n)) 0 0 := by
  refine g_of (cc := cX2_open) (maxL := 3) (ret := (some .int)) (Qc := fun A => va_Qi (RP K (a 0 0) (opOpen z sd ow cn B q li mh fl x n)) (gB D vwCl (gT K) A) A) (by decide) rfl (Nat.le_of_ble_eq_true rfl) ?_
  intro p e s m below meth c A ls I hl
  have I0 := I
  obtain ⟨hx, hb, hr, hml, hown, hts, hlocks, hnm, hA, hK, hP, hD, hS⟩ := I
  have hown : s.vm.findClass RX2 = some m.cls := hown
  have hl : lv_has ls 3 [(0, .ref (a 0 0)), (1, .int x), (2, .int n)] := hl
  have hi_X2 : ∀ w ∈ u_ws RX2 TX2 8, w ∈ wsX2_open := by decide +kernel
  have hi_X1 : ∀ w ∈ u_ws RX1 TX1 5, w ∈ wsX2_open := by decide +kernel
  have hco := hM.2.1
  refine lv_iload_n hx hb dX2_open_0 rfl (lv_at hl 1 rfl) ?_
  refine g_calli (va_runS (As := [.int _]) (rest := []) ⟨hx, hb, hml, hown, hts⟩ (c_isRow l D K _ _ _) (va_cwS 1 hts gX2_open_X2_isRow rfl rfl rfl (by decide +kernel) ⟨(Nat.le_of_ble_eq_true rfl), (Nat.le_of_ble_eq_true rfl)⟩) (g_preS hK hP hD) rfl rfl hl.1 rfl (lv_room (Nat.le_of_ble_eq_true rfl)) dX2_open_1 ⟨Nat.zero_le _, Nat.zero_le _⟩) hD hS hA (fun r1 wv H locs hw hP hD hS => ?_)
  obtain ⟨ew, e1⟩ := hw
  rw [ew] at hP hD
  refine lv_if_eq (tgt := 18) hx hb dX2_open_4 (by decide) (fun c4 => ?_) (fun c4 => ?_)
  · simp only [e1, Classical.not_not] at c4
    refine lv_iconst (v := -1) hx hb dX2_open_18 (by decide) ?_
    exact g_iret hx hb hr hlocks (Nat.le_of_ble_eq_true rfl) (Nat.le_of_ble_eq_true rfl) hK hP hD hS dX2_open_19 (by unfold opOpen; rw [if_neg (fun h => by simp only [inRow, Int32.le_iff_toInt_le, Int32.lt_iff_toInt_lt, gl_m1, gl_0, gl_1, gl_2, gl_3, gl_5, gl_6, gl_8, gl_9, gl_10, gl_11, gl_20, gl_40, gl_60] at h c4; omega)]; exact ⟨rfl, ⟨a, ho, bk, pl, pn, pm, nm, co, qu, rfl, rfl, hM, hPs, hlc, hLc⟩⟩)
  · simp only [e1, Classical.not_not] at c4
    refine lv_iload_n hx hb dX2_open_7 rfl (lv_at hl 2 rfl) ?_
    refine lv_iconst (v := 1) hx hb dX2_open_8 (by decide) ?_
    refine lv_icmp_lt (tgt := 18) hx hb dX2_open_9 (by decide) (fun c9 => ?_) (fun c9 => ?_)
    · refine lv_iconst (v := -1) hx hb dX2_open_18 (by decide) ?_
      exact g_iret hx hb hr hlocks (Nat.le_of_ble_eq_true rfl) (Nat.le_of_ble_eq_true rfl) hK hP hD hS dX2_open_19 (by unfold opOpen; rw [if_neg (fun h => by simp only [inRow, Int32.le_iff_toInt_le, Int32.lt_iff_toInt_lt, gl_m1, gl_0, gl_1, gl_2, gl_3, gl_5, gl_6, gl_8, gl_9, gl_10, gl_11, gl_20, gl_40, gl_60] at h c4 c9; omega)]; exact ⟨rfl, ⟨a, ho, bk, pl, pn, pm, nm, co, qu, rfl, rfl, hM, hPs, hlc, hLc⟩⟩)
    · refine lv_iload_n hx hb dX2_open_12 rfl (lv_at hl 2 rfl) ?_
      refine lv_bipush (v := 20) hx hb dX2_open_13 (by decide) ?_
      refine lv_icmp_le (tgt := 20) hx hb dX2_open_15 (by decide) (fun c15 => ?_) (fun c15 => ?_)
      · obtain ⟨r, hr10, rfl⟩ := g_ix (n := 10) rfl c4
        have hrz := hz r hr10
        have hxr : ixN (nI r) = r := ixN_nI (by omega)
        refine lv_aload_n hx hb dX2_open_20 rfl (lv_at hl 0 rfl) ?_
        refine va_get (C := RX2) (T := TX2) (N := 8) (ci := 2) hx hb hts hi_X2 hown hK hP (0) (rfl) rfl 0 (by decide) (hts (.fieldLink RX2 11 "GroupSeats" "rows" "[LGroupSeats$Row;") (by decide +kernel)) (fun _ h9 => h9) rfl dX2_open_21 ?_
        refine lv_iload_n hx hb dX2_open_24 rfl (lv_at hl 1 rfl) ?_
        refine g_aldq hx hb hK hP (1) 2 (rfl) rfl (vp_in_nI hr10 (by decide)) (gRf_at hr10 (by decide)) dX2_open_25 ?_
        refine g_calli (va_runV (As := []) (rest := []) ⟨hx, hb, hml, hown, hts⟩ (c_isOpen l D K _ (a 1 r) (a 2 r) (2 * r + 4) (nI (z r)) (sd r) (ho r) (bk r) _ (hW_row hr10)) (cwV 0 hts gX2_open_X1_isOpen rfl rfl rfl (by decide +kernel) ⟨(Nat.le_of_ble_eq_true rfl), (Nat.le_of_ble_eq_true rfl)⟩) (g_preV hK hP hD (ci := 1) (q0 := 2 * r + 4) rfl (hW_row hr10)) rfl rfl hl.1 rfl (lv_room (Nat.le_of_ble_eq_true rfl)) dX2_open_26 ⟨Nat.zero_le _, Nat.zero_le _⟩) hD hS hA (fun r26 wv H locs hw hP hD hS => ?_)
        obtain ⟨ew, e26⟩ := hw
        rw [ew] at hP hD
        refine lv_if_eq (tgt := 35) hx hb dX2_open_29 (by decide) (fun c29 => ?_) (fun c29 => ?_)
        · have hzr : z r = 0 := Classical.not_not.mp (fun h0 => (e26.mp c29) (by rw [show (0 : Int32) = nI 0 from rfl]; exact nI_lt (by omega) (by omega)))
          obtain ⟨n1, hn1, hn2, rfl⟩ := g_ix1 (n := 20) rfl c9 c15
          have hz2 : ∀ i, i < 10 → va_up z r n1 i ≤ 20 := fun i hi => by
            by_cases e : i = r
            · subst e; rw [va_up_self]; omega
            · rw [va_up_ne _ _ e]; exact hz i hi
          refine lv_aload_n hx hb dX2_open_35 rfl (lv_at hl 0 rfl) ?_
          refine va_get (C := RX2) (T := TX2) (N := 8) (ci := 2) hx hb hts hi_X2 hown hK hP (0) (rfl) rfl 0 (by decide) (hts (.fieldLink RX2 11 "GroupSeats" "rows" "[LGroupSeats$Row;") (by decide +kernel)) (fun _ h9 => h9) rfl dX2_open_36 ?_
          refine lv_iload_n hx hb dX2_open_39 rfl (lv_at hl 1 rfl) ?_
          refine g_aldq hx hb hK hP (1) 2 (rfl) rfl (vp_in_nI hr10 (by decide)) (gRf_at hr10 (by decide)) dX2_open_40 ?_
          refine lv_iload_n hx hb dX2_open_41 rfl (lv_at hl 2 rfl) ?_
          refine g_callv (va_runV (As := [.int _]) (rest := []) ⟨hx, hb, hml, hown, hts⟩ (c_begin l D K _ (a 1 r) (a 2 r) (2 * r + 4) (2 * r + 1 + 4) (nI (z r)) (sd r) (ho r) (bk r) (nI n1) (ow r) _ (by omega) (hW_row hr10) (hW_own hr10)) (cwV 1 hts gX2_open_X1_begin rfl rfl rfl (by decide +kernel) ⟨(Nat.le_of_ble_eq_true rfl), (Nat.le_of_ble_eq_true rfl)⟩) (g_preV hK hP hD (ci := 1) (q0 := 2 * r + 4) rfl (hW_row hr10)) rfl rfl hl.1 rfl (lv_room (Nat.le_of_ble_eq_true rfl)) dX2_open_42 ⟨Nat.zero_le _, Nat.zero_le _⟩) hD hS hA (fun wv H locs hw hP hD hS => ?_)
          rw [hw, hW_setRow hr10, hW_setOwn hr10] at hP hD
          refine lv_aload_n hx hb dX2_open_45 rfl (lv_at hl 0 rfl) ?_
          refine g_calli (va_runV (As := []) (rest := []) ⟨hx, hb, hml, hown, hts⟩ (c_try l D K a (va_up z r n1) (va_up sd r 0) (va_up ho r (ho r)) (va_up bk r 0) (va_up ow r (gFill (-8) 20 (ow r))) pl pn pm nm cn co qu B mh fl q _ hz2 hq8 hB40 hmh6 hM hPs) (cwV 0 hts gX2_open_X2_tryThoseWaiting rfl rfl rfl (by decide +kernel) ⟨(Nat.le_of_ble_eq_true rfl), (Nat.le_of_ble_eq_true rfl)⟩) (g_preV hK hP hD (ci := 2) (q0 := 0) rfl (rfl)) rfl rfl hl.1 rfl (lv_room (Nat.le_of_ble_eq_true rfl)) dX2_open_46 ⟨Nat.zero_le _, Nat.zero_le _⟩) hD hS hA (fun r46 wv H locs hw hP hD hS => ?_)
          obtain ⟨er, ho2, bk2, qu2, ew, hM2, hPs2⟩ := hw
          rw [ew] at hP hD
          exact g_iret hx hb hr hlocks (Nat.le_of_ble_eq_true rfl) (Nat.le_of_ble_eq_true rfl) hK hP hD hS dX2_open_49 (by unfold opOpen; rw [if_pos ⟨inRow_nI hr10, by simp only [Int32.le_iff_toInt_le, Int32.lt_iff_toInt_lt, gl_m1, gl_0, gl_1, gl_2, gl_3, gl_5, gl_6, gl_8, gl_9, gl_10, gl_11, gl_20, gl_40, gl_60] at c9 ⊢; omega, c15⟩, hxr, ixN_nI (n := n1) (by omega), if_pos hzr]; exact ⟨er, a, ho2, bk2, pl, pn, pm, nm, co, qu2, rfl, rfl, hM2, hPs2, hlc, hLc⟩)
        · have hzr : z r ≠ 0 := fun h0 => c29 (e26.mpr (by rw [h0]; decide))
          refine lv_bipush (v := -2) hx hb dX2_open_32 (by decide) ?_
          exact g_iret hx hb hr hlocks (Nat.le_of_ble_eq_true rfl) (Nat.le_of_ble_eq_true rfl) hK hP hD hS dX2_open_34 (by unfold opOpen; rw [if_pos ⟨inRow_nI hr10, by simp only [Int32.le_iff_toInt_le, Int32.lt_iff_toInt_lt, gl_m1, gl_0, gl_1, gl_2, gl_3, gl_5, gl_6, gl_8, gl_9, gl_10, gl_11, gl_20, gl_40, gl_60] at c9 ⊢; omega, c15⟩, hxr, if_neg hzr]; exact ⟨rfl, ⟨a, ho, bk, pl, pn, pm, nm, co, qu, rfl, rfl, hM, hPs, hlc, hLc⟩⟩)
      · refine lv_iconst (v := -1) hx hb dX2_open_18 (by decide) ?_
        exact g_iret hx hb hr hlocks (Nat.le_of_ble_eq_true rfl) (Nat.le_of_ble_eq_true rfl) hK hP hD hS dX2_open_19 (by unfold opOpen; rw [if_neg (fun h => by simp only [inRow, Int32.le_iff_toInt_le, Int32.lt_iff_toInt_lt, gl_m1, gl_0, gl_1, gl_2, gl_3, gl_5, gl_6, gl_8, gl_9, gl_10, gl_11, gl_20, gl_40, gl_60] at h c4 c9 c15; omega)]; exact ⟨rfl, ⟨a, ho, bk, pl, pn, pm, nm, co, qu, rfl, rfl, hM, hPs, hlc, hLc⟩⟩)
set_option maxHeartbeats 4000000 in
set_option maxRecDepth 100000 in
/-- list -/
theorem h_list (l : Launch) (D : va_G) (K : gCl) (a : Nat → Nat → Nat) (z : Nat → Nat) (sd ho bk : Nat → Int32) (ow : Nat → Nat → Int32) (pl pn pm : Nat → Int32) (nm : Nat → Nat → Int32) (cn : Nat → Int32) (co : Nat) (qu : Nat → Nat) (B mh : Nat) (fl : Int32) (q : List Pty) (li : List Nat) (x : Int32) (sz : Nat) (hz : ∀ i, i < 10 → z i ≤ 20) (hB40 : B ≤ 40) (hq8 : q.length ≤ 8) (hmh6 : mh ≤ 6) (hM : PM qu co) (hPs : PQ pl pn pm nm qu 0 q) (hlc : pl co = nI li.length) (hLc : isL (nm co) li) : gMi l yX2_list wsX2_list ({ frames := 14, cells := 0, slots := 0, locals := 420 } : Room) D vwCl (gT K) [.ref (a 0 0), .int x] (hW K a z sd ho bk ow pl pn pm nm cn co qu (nI B) (nI q.length) (nI mh) fl) sz (RP K (a 0 0) (opList z sd ow cn B q li mh fl x)) 0 0 := by
  refine g_of (cc := cX2_list) (maxL := 2) (ret := (some .int)) (Qc := fun A => va_Qi (RP K (a 0 0) (opList z sd ow cn B q li mh fl x)) (gB D vwCl (gT K) A) A) (by decide) rfl (Nat.le_of_ble_eq_true rfl) ?_
  intro p e s m below meth c A ls I hl
  have I0 := I
  obtain ⟨hx, hb, hr, hml, hown, hts, hlocks, hnm, hA, hK, hP, hD, hS⟩ := I
  have hown : s.vm.findClass RX2 = some m.cls := hown
  have hl : lv_has ls 2 [(0, .ref (a 0 0)), (1, .int x)] := hl
  have hi_X2 : ∀ w ∈ u_ws RX2 TX2 8, w ∈ wsX2_list := by decide +kernel
  have hi_X0 : ∀ w ∈ u_ws RX0 TX0 4, w ∈ wsX2_list := by decide +kernel
  have hco := hM.2.1
  have hLc6 := hLc.1
  refine lv_iload_n hx hb dX2_list_0 rfl (lv_at hl 1 rfl) ?_
  refine lv_if_lt (tgt := 10) hx hb dX2_list_1 (by decide) (fun c1 => ?_) (fun c1 => ?_)
  · refine lv_iconst (v := -1) hx hb dX2_list_10 (by decide) ?_
    exact g_iret hx hb hr hlocks (Nat.le_of_ble_eq_true rfl) (Nat.le_of_ble_eq_true rfl) hK hP hD hS dX2_list_11 (by unfold opList; rw [if_neg (fun h => by simp only [inRow, Int32.le_iff_toInt_le, Int32.lt_iff_toInt_lt, gl_m1, gl_0, gl_1, gl_2, gl_3, gl_5, gl_6, gl_8, gl_9, gl_10, gl_11, gl_20, gl_40, gl_60] at h c1; omega)]; exact ⟨rfl, ⟨a, ho, bk, pl, pn, pm, nm, co, qu, rfl, rfl, hM, hPs, hlc, hLc⟩⟩)
  · refine lv_iload_n hx hb dX2_list_4 rfl (lv_at hl 1 rfl) ?_
    refine lv_bipush (v := 11) hx hb dX2_list_5 (by decide) ?_
    refine lv_icmp_le (tgt := 12) hx hb dX2_list_7 (by decide) (fun c7 => ?_) (fun c7 => ?_)
    · refine lv_aload_n hx hb dX2_list_12 rfl (lv_at hl 0 rfl) ?_
      refine va_get (C := RX2) (T := TX2) (N := 8) (ci := 2) hx hb hts hi_X2 hown hK hP (0) (rfl) rfl 3 (by decide) (hts (.fieldLink RX2 26 "GroupSeats" "coming" "LGroupSeats$Party;") (by decide +kernel)) (fun _ h9 => h9) rfl dX2_list_13 ?_
      refine va_get (C := RX0) (T := TX0) (N := 4) (ci := 0) hx hb hts hi_X0 hown hK hP (2 * co + 20 + 4) (hW_par hco) rfl 1 (by decide) (hts (.fieldLink RX2 59 "GroupSeats$Party" "listed" "I") (by decide +kernel)) (fun _ h9 => h9) rfl dX2_list_16 ?_
      refine lv_bipush (v := 6) hx hb dX2_list_19 (by decide) ?_
      refine lv_icmp_lt (tgt := 27) hx hb dX2_list_21 (by decide) (fun c21 => ?_) (fun c21 => ?_)
      · obtain ⟨i1, hi1, rfl⟩ := nI_of2 (n := 11) (M := 11) rfl c1 c7
        rw [hlc] at c21
        have hl6 : li.length < 6 := (nI_ltI (b := 6) (by omega) (by decide)).mp c21
        refine lv_aload_n hx hb dX2_list_27 rfl (lv_at hl 0 rfl) ?_
        refine va_get (C := RX2) (T := TX2) (N := 8) (ci := 2) hx hb hts hi_X2 hown hK hP (0) (rfl) rfl 3 (by decide) (hts (.fieldLink RX2 26 "GroupSeats" "coming" "LGroupSeats$Party;") (by decide +kernel)) (fun _ h9 => h9) rfl dX2_list_28 ?_
        refine va_get (C := RX0) (T := TX0) (N := 4) (ci := 0) hx hb hts hi_X0 hown hK hP (2 * co + 20 + 4) (hW_par hco) rfl 0 (by decide) (hts (.fieldLink RX2 62 "GroupSeats$Party" "numbers" "[I") (by decide +kernel)) (fun _ h9 => h9) rfl dX2_list_31 ?_
        refine lv_aload_n hx hb dX2_list_34 rfl (lv_at hl 0 rfl) ?_
        refine va_get (C := RX2) (T := TX2) (N := 8) (ci := 2) hx hb hts hi_X2 hown hK hP (0) (rfl) rfl 3 (by decide) (hts (.fieldLink RX2 26 "GroupSeats" "coming" "LGroupSeats$Party;") (by decide +kernel)) (fun _ h9 => h9) rfl dX2_list_35 ?_
        refine va_get (C := RX0) (T := TX0) (N := 4) (ci := 0) hx hb hts hi_X0 hown hK hP (2 * co + 20 + 4) (hW_par hco) rfl 1 (by decide) (hts (.fieldLink RX2 59 "GroupSeats$Party" "listed" "I") (by decide +kernel)) (fun _ h9 => h9) rfl dX2_list_38 ?_
        refine lv_iload_n hx hb dX2_list_41 rfl (lv_at hl 1 rfl) ?_
        refine va_iast hx hb hK hP hD hS (2 * co + 1 + 20 + 4) 0 (hW_num hco) rfl (by rw [hlc]; exact vp_in_nI hl6 (by decide)) dX2_list_42 (fun H locs hP hD hS => ?_)
        have hP : va_P D vwCl ((hW K a z sd ho bk ow pl pn pm nm cn co qu (nI B) (nI q.length) (nI mh) fl).set (2 * co + 1 + 20 + 4) (a 4 co, gArr K.1 6 (upd (nm co) (pl co).toNatClampNeg (nI i1)))) H := hP
        have hD : va_D A ((hW K a z sd ho bk ow pl pn pm nm cn co qu (nI B) (nI q.length) (nI mh) fl).set (2 * co + 1 + 20 + 4) (a 4 co, gArr K.1 6 (upd (nm co) (pl co).toNatClampNeg (nI i1)))) := hD
        rw [hlc, nI_clamp (by omega), hW_setNum hco] at hP hD
        refine lv_aload_n hx hb dX2_list_43 rfl (lv_at hl 0 rfl) ?_
        refine va_get (C := RX2) (T := TX2) (N := 8) (ci := 2) hx hb hts hi_X2 hown hK hP (0) (rfl) rfl 3 (by decide) (hts (.fieldLink RX2 26 "GroupSeats" "coming" "LGroupSeats$Party;") (by decide +kernel)) (fun _ h9 => h9) rfl dX2_list_44 ?_
        refine lv_dup hx hb dX2_list_47 rfl ?_
        refine va_get (C := RX0) (T := TX0) (N := 4) (ci := 0) hx hb hts hi_X0 hown hK hP (2 * co + 20 + 4) (hW_par hco) rfl 1 (by decide) (hts (.fieldLink RX2 59 "GroupSeats$Party" "listed" "I") (by decide +kernel)) (fun _ h9 => h9) rfl dX2_list_48 ?_
        refine lv_iconst (v := 1) hx hb dX2_list_51 (by decide) ?_
        refine lv_iadd hx hb dX2_list_52 ?_
        refine va_put (C := RX0) (T := TX0) (N := 4) (ci := 0) (ty := .int) hx hb hts hi_X0 tyX0 tyX0_ok nmX0 hown hK hP hD hS (2 * co + 20 + 4) (hW_par hco) rfl 1 (by decide) (hts (.fieldLink RX2 59 "GroupSeats$Party" "listed" "I") (by decide +kernel)) (fun _ h9 => h9) rfl (by decide +kernel) rfl rfl (Nat.le_of_ble_eq_true rfl) dX2_list_53 (fun H locs hP hD hS => ?_)
        have hP : va_P D vwCl ((hW K a z sd ho bk ow pl pn pm (va_up nm co (upd (nm co) li.length (nI i1))) cn co qu (nI B) (nI q.length) (nI mh) fl).set (2 * co + 20 + 4) (a 3 co, gPar (a 4 co) (pl co + 1) (pn co) (pm co))) H := hP
        have hD : va_D A ((hW K a z sd ho bk ow pl pn pm (va_up nm co (upd (nm co) li.length (nI i1))) cn co qu (nI B) (nI q.length) (nI mh) fl).set (2 * co + 20 + 4) (a 3 co, gPar (a 4 co) (pl co + 1) (pn co) (pm co))) := hD
        rw [hlc, nI_1, hW_setPar hco] at hP hD
        refine lv_aload_n hx hb dX2_list_56 rfl (lv_at hl 0 rfl) ?_
        refine va_get (C := RX2) (T := TX2) (N := 8) (ci := 2) hx hb hts hi_X2 hown hK hP (0) (rfl) rfl 3 (by decide) (hts (.fieldLink RX2 26 "GroupSeats" "coming" "LGroupSeats$Party;") (by decide +kernel)) (fun _ h9 => h9) rfl dX2_list_57 ?_
        refine va_get (C := RX0) (T := TX0) (N := 4) (ci := 0) hx hb hts hi_X0 hown hK hP (2 * co + 20 + 4) (hW_par hco) rfl 1 (by decide) (hts (.fieldLink RX2 59 "GroupSeats$Party" "listed" "I") (by decide +kernel)) (fun _ h9 => h9) rfl dX2_list_60 ?_
        exact g_iret hx hb hr hlocks (Nat.le_of_ble_eq_true rfl) (Nat.le_of_ble_eq_true rfl) hK hP hD hS dX2_list_63 (by unfold opList; rw [if_pos ⟨by simp only [Int32.le_iff_toInt_le, Int32.lt_iff_toInt_lt, gl_m1, gl_0, gl_1, gl_2, gl_3, gl_5, gl_6, gl_8, gl_9, gl_10, gl_11, gl_20, gl_40, gl_60] at c1 ⊢; omega, c7⟩, if_pos hl6, ixN_nI (by omega)]; exact ⟨va_up_self _ _ _, a, ho, bk, _, _, _, _, co, qu, rfl, rfl, hM, PQ_up hM hq8 hPs, by rw [va_up_self]; simp, by rw [va_up_self]; exact isL_push hLc hl6 hi1⟩)
      · refine lv_bipush (v := -3) hx hb dX2_list_24 (by decide) ?_
        exact g_iret hx hb hr hlocks (Nat.le_of_ble_eq_true rfl) (Nat.le_of_ble_eq_true rfl) hK hP hD hS dX2_list_26 (by rw [hlc] at c21; unfold opList; rw [if_pos ⟨by simp only [Int32.le_iff_toInt_le, Int32.lt_iff_toInt_lt, gl_m1, gl_0, gl_1, gl_2, gl_3, gl_5, gl_6, gl_8, gl_9, gl_10, gl_11, gl_20, gl_40, gl_60] at c1 ⊢; omega, c7⟩, if_neg (fun h => c21 (nI_lt (b := 6) h (by decide)))]; exact ⟨rfl, ⟨a, ho, bk, pl, pn, pm, nm, co, qu, rfl, rfl, hM, hPs, hlc, hLc⟩⟩)
    · refine lv_iconst (v := -1) hx hb dX2_list_10 (by decide) ?_
      exact g_iret hx hb hr hlocks (Nat.le_of_ble_eq_true rfl) (Nat.le_of_ble_eq_true rfl) hK hP hD hS dX2_list_11 (by unfold opList; rw [if_neg (fun h => by simp only [inRow, Int32.le_iff_toInt_le, Int32.lt_iff_toInt_lt, gl_m1, gl_0, gl_1, gl_2, gl_3, gl_5, gl_6, gl_8, gl_9, gl_10, gl_11, gl_20, gl_40, gl_60] at h c1 c7; omega)]; exact ⟨rfl, ⟨a, ho, bk, pl, pn, pm, nm, co, qu, rfl, rfl, hM, hPs, hlc, hLc⟩⟩)
set_option maxHeartbeats 4000000 in
set_option maxRecDepth 100000 in
/-- queueUp -/
theorem c_queueUp (l : Launch) (D : va_G) (K : gCl) (a : Nat → Nat → Nat) (z : Nat → Nat) (sd ho bk : Nat → Int32) (ow : Nat → Nat → Int32) (pl pn pm : Nat → Int32) (nm : Nat → Nat → Int32) (cn : Nat → Int32) (co : Nat) (qu : Nat → Nat) (B wt mh : Nat) (fl : Int32) (sz : Nat) (hM : PM qu co) (hwt : wt < 8) : gMv l yX2_queueUp wsX2_queueUp ({ frames := 0, cells := 0, slots := 0, locals := 0 } : Room) D vwCl (gT K) [.ref (a 0 0)] (hW K a z sd ho bk ow pl pn pm nm cn co qu (nI B) (nI wt) (nI mh) fl) sz (fun w1 => w1 = hW K a z sd ho bk ow pl pn pm nm cn (qu wt) (va_up qu wt co) (nI B) (nI (wt + 1)) (nI mh) fl) 0 0 := by
  refine g_of (cc := cX2_queueUp) (maxL := 2) (ret := none) (Qc := fun A => va_Qv (fun w1 => w1 = hW K a z sd ho bk ow pl pn pm nm cn (qu wt) (va_up qu wt co) (nI B) (nI (wt + 1)) (nI mh) fl) (gB D vwCl (gT K) A) A) (by decide) rfl (Nat.le_of_ble_eq_true rfl) ?_
  intro p e s m below meth c A ls I hl
  have I0 := I
  obtain ⟨hx, hb, hr, hml, hown, hts, hlocks, hnm, hA, hK, hP, hD, hS⟩ := I
  have hown : s.vm.findClass RX2 = some m.cls := hown
  have hl : lv_has ls 2 [(0, .ref (a 0 0))] := hl
  have hi_X2 : ∀ w ∈ u_ws RX2 TX2 8, w ∈ wsX2_queueUp := by decide +kernel
  refine lv_aload_n hx hb dX2_queueUp_0 rfl (lv_at hl 0 rfl) ?_
  refine va_get (C := RX2) (T := TX2) (N := 8) (ci := 2) hx hb hts hi_X2 hown hK hP (0) (rfl) rfl 2 (by decide) (hts (.fieldLink RX2 21 "GroupSeats" "queue" "[LGroupSeats$Party;") (by decide +kernel)) (fun _ h9 => h9) rfl dX2_queueUp_1 ?_
  refine lv_aload_n hx hb dX2_queueUp_4 rfl (lv_at hl 0 rfl) ?_
  refine va_get (C := RX2) (T := TX2) (N := 8) (ci := 2) hx hb hts hi_X2 hown hK hP (0) (rfl) rfl 5 (by decide) (hts (.fieldLink RX2 77 "GroupSeats" "waiters" "I") (by decide +kernel)) (fun _ h9 => h9) rfl dX2_queueUp_5 ?_
  refine g_aldq hx hb hK hP (3) 3 (rfl) rfl (vp_in_nI hwt (by decide)) (gRf_at hwt (by decide)) dX2_queueUp_8 ?_
  refine lv_astore_n (lv' := [(1, .ref _), (0, .ref _)]) hx hb dX2_queueUp_9 rfl hl (by decide) rfl (fun ls hl => ?_)
  refine lv_aload_n hx hb dX2_queueUp_10 rfl (lv_at hl 1 rfl) ?_
  refine va_get (C := RX2) (T := TX2) (N := 8) (ci := 2) hx hb hts hi_X2 hown hK hP (0) (rfl) rfl 2 (by decide) (hts (.fieldLink RX2 21 "GroupSeats" "queue" "[LGroupSeats$Party;") (by decide +kernel)) (fun _ h9 => h9) rfl dX2_queueUp_11 ?_
  refine lv_aload_n hx hb dX2_queueUp_14 rfl (lv_at hl 1 rfl) ?_
  refine va_get (C := RX2) (T := TX2) (N := 8) (ci := 2) hx hb hts hi_X2 hown hK hP (0) (rfl) rfl 5 (by decide) (hts (.fieldLink RX2 77 "GroupSeats" "waiters" "I") (by decide +kernel)) (fun _ h9 => h9) rfl dX2_queueUp_15 ?_
  refine lv_aload_n hx hb dX2_queueUp_18 rfl (lv_at hl 1 rfl) ?_
  refine va_get (C := RX2) (T := TX2) (N := 8) (ci := 2) hx hb hts hi_X2 hown hK hP (0) (rfl) rfl 3 (by decide) (hts (.fieldLink RX2 26 "GroupSeats" "coming" "LGroupSeats$Party;") (by decide +kernel)) (fun _ h9 => h9) rfl dX2_queueUp_19 ?_
  refine va_astq hx hb hK hP hD hS 3 3 (2 * co + 20 + 4) 0 rfl rfl (hW_par hM.2.1) rfl (vp_in_nI hwt (by decide)) dX2_queueUp_22 (fun H locs hP hD hS => ?_)
  have hP : va_P D vwCl ((hW K a z sd ho bk ow pl pn pm nm cn co qu (nI B) (nI wt) (nI mh) fl).set (3) (a 0 3, gRef K.2.2.2 8 (va_up (gRf 8 (fun i => a 3 (qu i))) (nI wt).toNatClampNeg (some (a 3 co))))) H := hP
  have hD : va_D A ((hW K a z sd ho bk ow pl pn pm nm cn co qu (nI B) (nI wt) (nI mh) fl).set (3) (a 0 3, gRef K.2.2.2 8 (va_up (gRf 8 (fun i => a 3 (qu i))) (nI wt).toNatClampNeg (some (a 3 co))))) := hD
  rw [hW_setQu hwt] at hP hD
  refine lv_aload_n hx hb dX2_queueUp_23 rfl (lv_at hl 1 rfl) ?_
  refine lv_dup hx hb dX2_queueUp_24 rfl ?_
  refine va_get (C := RX2) (T := TX2) (N := 8) (ci := 2) hx hb hts hi_X2 hown hK hP (0) (rfl) rfl 5 (by decide) (hts (.fieldLink RX2 77 "GroupSeats" "waiters" "I") (by decide +kernel)) (fun _ h9 => h9) rfl dX2_queueUp_25 ?_
  refine lv_iconst (v := 1) hx hb dX2_queueUp_28 (by decide) ?_
  refine lv_iadd hx hb dX2_queueUp_29 ?_
  refine va_put (C := RX2) (T := TX2) (N := 8) (ci := 2) (ty := .int) hx hb hts hi_X2 tyX2 tyX2_ok nmX2 hown hK hP hD hS (0) (rfl) rfl 5 (by decide) (hts (.fieldLink RX2 77 "GroupSeats" "waiters" "I") (by decide +kernel)) (fun _ h9 => h9) rfl (by decide +kernel) rfl rfl (Nat.le_of_ble_eq_true rfl) dX2_queueUp_30 (fun H locs hP hD hS => ?_)
  have hP : va_P D vwCl (hW K a z sd ho bk ow pl pn pm nm cn co (va_up qu wt co) (nI B) (nI wt + 1) (nI mh) fl) H := hP
  have hD : va_D A (hW K a z sd ho bk ow pl pn pm nm cn co (va_up qu wt co) (nI B) (nI wt + 1) (nI mh) fl) := hD
  rw [nI_1 wt] at hP hD
  refine lv_aload_n hx hb dX2_queueUp_33 rfl (lv_at hl 1 rfl) ?_
  refine lv_aload_n hx hb dX2_queueUp_34 rfl (lv_at hl 0 rfl) ?_
  refine va_put (C := RX2) (T := TX2) (N := 8) (ci := 2) (ty := .object "GroupSeats$Party") hx hb hts hi_X2 tyX2 tyX2_ok nmX2 hown hK hP hD hS (0) (rfl) rfl 3 (by decide) (hts (.fieldLink RX2 26 "GroupSeats" "coming" "LGroupSeats$Party;") (by decide +kernel)) (fun _ h9 => h9) rfl (by decide +kernel) rfl rfl (Nat.le_of_ble_eq_true rfl) dX2_queueUp_35 (fun H locs hP hD hS => ?_)
  have hP : va_P D vwCl (hW K a z sd ho bk ow pl pn pm nm cn (qu wt) (va_up qu wt co) (nI B) (nI (wt + 1)) (nI mh) fl) H := hP
  have hD : va_D A (hW K a z sd ho bk ow pl pn pm nm cn (qu wt) (va_up qu wt co) (nI B) (nI (wt + 1)) (nI mh) fl) := hD
  exact g_vret hx hb hr hlocks (Nat.le_of_ble_eq_true rfl) (Nat.le_of_ble_eq_true rfl) hK hP hD hS dX2_queueUp_38 (rfl)
set_option maxHeartbeats 4000000 in
set_option maxRecDepth 100000 in
/-- book -/
theorem h_book (l : Launch) (D : va_G) (K : gCl) (a : Nat → Nat → Nat) (z : Nat → Nat) (sd ho bk : Nat → Int32) (ow : Nat → Nat → Int32) (pl pn pm : Nat → Int32) (nm : Nat → Nat → Int32) (cn : Nat → Int32) (co : Nat) (qu : Nat → Nat) (B mh : Nat) (fl : Int32) (q : List Pty) (li : List Nat) (n mo : Int32) (sz : Nat) (hz : ∀ i, i < 10 → z i ≤ 20) (hB40 : B ≤ 40) (hq8 : q.length ≤ 8) (hmh6 : mh ≤ 6) (hM : PM qu co) (hPs : PQ pl pn pm nm qu 0 q) (hlc : pl co = nI li.length) (hLc : isL (nm co) li) : gMi l yX2_book wsX2_book ({ frames := 14, cells := 0, slots := 0, locals := 420 } : Room) D vwCl (gT K) [.ref (a 0 0), .int n, .int mo] (hW K a z sd ho bk ow pl pn pm nm cn co qu (nI B) (nI q.length) (nI mh) fl) sz (RP K (a 0 0) (opBook z sd ow cn B q li mh fl n mo)) 0 0 := by
  refine g_of (cc := cX2_book) (maxL := 4) (ret := (some .int)) (Qc := fun A => va_Qi (RP K (a 0 0) (opBook z sd ow cn B q li mh fl n mo)) (gB D vwCl (gT K) A) A) (by decide) rfl (Nat.le_of_ble_eq_true rfl) ?_
  intro p e s m below meth c A ls I hl
  have I0 := I
  obtain ⟨hx, hb, hr, hml, hown, hts, hlocks, hnm, hA, hK, hP, hD, hS⟩ := I
  have hown : s.vm.findClass RX2 = some m.cls := hown
  have hl : lv_has ls 4 [(0, .ref (a 0 0)), (1, .int n), (2, .int mo)] := hl
  have hi_X2 : ∀ w ∈ u_ws RX2 TX2 8, w ∈ wsX2_book := by decide +kernel
  have hi_X0 : ∀ w ∈ u_ws RX0 TX0 4, w ∈ wsX2_book := by decide +kernel
  have hco := hM.2.1
  have hLc6 := hLc.1
  refine lv_iload_n hx hb dX2_book_0 rfl (lv_at hl 1 rfl) ?_
  refine lv_iconst (v := 1) hx hb dX2_book_1 (by decide) ?_
  refine lv_icmp_lt (tgt := 20) hx hb dX2_book_2 (by decide) (fun c2 => ?_) (fun c2 => ?_)
  · refine lv_iconst (v := -1) hx hb dX2_book_20 (by decide) ?_
    exact g_iret hx hb hr hlocks (Nat.le_of_ble_eq_true rfl) (Nat.le_of_ble_eq_true rfl) hK hP hD hS dX2_book_21 (by unfold opBook; rw [if_neg (fun h => by simp only [inRow, Int32.le_iff_toInt_le, Int32.lt_iff_toInt_lt, gl_m1, gl_0, gl_1, gl_2, gl_3, gl_5, gl_6, gl_8, gl_9, gl_10, gl_11, gl_20, gl_40, gl_60] at h c2; omega)]; exact ⟨rfl, ⟨a, ho, bk, pl, pn, pm, nm, co, qu, rfl, rfl, hM, hPs, hlc, hLc⟩⟩)
  · refine lv_iload_n hx hb dX2_book_5 rfl (lv_at hl 1 rfl) ?_
    refine lv_bipush (v := 60) hx hb dX2_book_6 (by decide) ?_
    refine lv_icmp_gt (tgt := 20) hx hb dX2_book_8 (by decide) (fun c8 => ?_) (fun c8 => ?_)
    · refine lv_iconst (v := -1) hx hb dX2_book_20 (by decide) ?_
      exact g_iret hx hb hr hlocks (Nat.le_of_ble_eq_true rfl) (Nat.le_of_ble_eq_true rfl) hK hP hD hS dX2_book_21 (by unfold opBook; rw [if_neg (fun h => by simp only [inRow, Int32.le_iff_toInt_le, Int32.lt_iff_toInt_lt, gl_m1, gl_0, gl_1, gl_2, gl_3, gl_5, gl_6, gl_8, gl_9, gl_10, gl_11, gl_20, gl_40, gl_60] at h c2 c8; omega)]; exact ⟨rfl, ⟨a, ho, bk, pl, pn, pm, nm, co, qu, rfl, rfl, hM, hPs, hlc, hLc⟩⟩)
    · refine lv_iload_n hx hb dX2_book_11 rfl (lv_at hl 2 rfl) ?_
      refine lv_if_lt (tgt := 20) hx hb dX2_book_12 (by decide) (fun c12 => ?_) (fun c12 => ?_)
      · refine lv_iconst (v := -1) hx hb dX2_book_20 (by decide) ?_
        exact g_iret hx hb hr hlocks (Nat.le_of_ble_eq_true rfl) (Nat.le_of_ble_eq_true rfl) hK hP hD hS dX2_book_21 (by unfold opBook; rw [if_neg (fun h => by simp only [inRow, Int32.le_iff_toInt_le, Int32.lt_iff_toInt_lt, gl_m1, gl_0, gl_1, gl_2, gl_3, gl_5, gl_6, gl_8, gl_9, gl_10, gl_11, gl_20, gl_40, gl_60] at h c2 c8 c12; omega)]; exact ⟨rfl, ⟨a, ho, bk, pl, pn, pm, nm, co, qu, rfl, rfl, hM, hPs, hlc, hLc⟩⟩)
      · refine lv_iload_n hx hb dX2_book_15 rfl (lv_at hl 2 rfl) ?_
        refine lv_iconst (v := 2) hx hb dX2_book_16 (by decide) ?_
        refine lv_icmp_le (tgt := 22) hx hb dX2_book_17 (by decide) (fun c17 => ?_) (fun c17 => ?_)
        · refine lv_aload_n hx hb dX2_book_22 rfl (lv_at hl 0 rfl) ?_
          refine va_get (C := RX2) (T := TX2) (N := 8) (ci := 2) hx hb hts hi_X2 hown hK hP (0) (rfl) rfl 3 (by decide) (hts (.fieldLink RX2 26 "GroupSeats" "coming" "LGroupSeats$Party;") (by decide +kernel)) (fun _ h9 => h9) rfl dX2_book_23 ?_
          refine va_get (C := RX0) (T := TX0) (N := 4) (ci := 0) hx hb hts hi_X0 hown hK hP (2 * co + 20 + 4) (hW_par hco) rfl 1 (by decide) (hts (.fieldLink RX2 59 "GroupSeats$Party" "listed" "I") (by decide +kernel)) (fun _ h9 => h9) rfl dX2_book_26 ?_
          refine lv_if_ne (tgt := 35) hx hb dX2_book_29 (by decide) (fun c29 => ?_) (fun c29 => ?_)
          · refine lv_aload_n hx hb dX2_book_35 rfl (lv_at hl 0 rfl) ?_
            refine va_get (C := RX2) (T := TX2) (N := 8) (ci := 2) hx hb hts hi_X2 hown hK hP (0) (rfl) rfl 4 (by decide) (hts (.fieldLink RX2 66 "GroupSeats" "bookings" "I") (by decide +kernel)) (fun _ h9 => h9) rfl dX2_book_36 ?_
            refine lv_bipush (v := 40) hx hb dX2_book_39 (by decide) ?_
            refine lv_icmp_lt (tgt := 47) hx hb dX2_book_41 (by decide) (fun c41 => ?_) (fun c41 => ?_)
            · obtain ⟨n1, hn1, hn2, rfl⟩ := g_ix1 (n := 60) rfl c2 (by simp only [Int32.le_iff_toInt_le, Int32.lt_iff_toInt_lt, gl_m1, gl_0, gl_1, gl_2, gl_3, gl_5, gl_6, gl_8, gl_9, gl_10, gl_11, gl_20, gl_40, gl_60] at c8 ⊢; omega : n ≤ 60)
              have hBl : B < 40 := (nI_ltI (b := 40) (by omega) (by decide)).mp c41
              have hls : li.length ≠ 0 := fun h => c29 (by rw [hlc, h]; rfl)
              have hc1 : (1 ≤ nI n1 ∧ nI n1 ≤ 60) ∧ 0 ≤ mo ∧ mo ≤ 2 := by simp only [Int32.le_iff_toInt_le, Int32.lt_iff_toInt_lt, gl_m1, gl_0, gl_1, gl_2, gl_3, gl_5, gl_6, gl_8, gl_9, gl_10, gl_11, gl_20, gl_40, gl_60] at c2 c8 c12 c17 ⊢; omega
              refine lv_aload_n hx hb dX2_book_47 rfl (lv_at hl 0 rfl) ?_
              refine va_get (C := RX2) (T := TX2) (N := 8) (ci := 2) hx hb hts hi_X2 hown hK hP (0) (rfl) rfl 3 (by decide) (hts (.fieldLink RX2 26 "GroupSeats" "coming" "LGroupSeats$Party;") (by decide +kernel)) (fun _ h9 => h9) rfl dX2_book_48 ?_
              refine lv_iload_n hx hb dX2_book_51 rfl (lv_at hl 1 rfl) ?_
              refine va_put (C := RX0) (T := TX0) (N := 4) (ci := 0) (ty := .int) hx hb hts hi_X0 tyX0 tyX0_ok nmX0 hown hK hP hD hS (2 * co + 20 + 4) (hW_par hco) rfl 2 (by decide) (hts (.fieldLink RX2 69 "GroupSeats$Party" "size" "I") (by decide +kernel)) (fun _ h9 => h9) rfl (by decide +kernel) rfl rfl (Nat.le_of_ble_eq_true rfl) dX2_book_52 (fun H locs hP hD hS => ?_)
              have hP : va_P D vwCl ((hW K a z sd ho bk ow pl pn pm nm cn co qu (nI B) (nI q.length) (nI mh) fl).set (2 * co + 20 + 4) (a 3 co, gPar (a 4 co) (pl co) (nI n1) (pm co))) H := hP
              have hD : va_D A ((hW K a z sd ho bk ow pl pn pm nm cn co qu (nI B) (nI q.length) (nI mh) fl).set (2 * co + 20 + 4) (a 3 co, gPar (a 4 co) (pl co) (nI n1) (pm co))) := hD
              rw [hW_setPn hco] at hP hD
              refine lv_aload_n hx hb dX2_book_55 rfl (lv_at hl 0 rfl) ?_
              refine va_get (C := RX2) (T := TX2) (N := 8) (ci := 2) hx hb hts hi_X2 hown hK hP (0) (rfl) rfl 3 (by decide) (hts (.fieldLink RX2 26 "GroupSeats" "coming" "LGroupSeats$Party;") (by decide +kernel)) (fun _ h9 => h9) rfl dX2_book_56 ?_
              refine lv_iload_n hx hb dX2_book_59 rfl (lv_at hl 2 rfl) ?_
              refine va_put (C := RX0) (T := TX0) (N := 4) (ci := 0) (ty := .int) hx hb hts hi_X0 tyX0 tyX0_ok nmX0 hown hK hP hD hS (2 * co + 20 + 4) (hW_par hco) rfl 3 (by decide) (hts (.fieldLink RX2 70 "GroupSeats$Party" "mode" "I") (by decide +kernel)) (fun _ h9 => h9) rfl (by decide +kernel) rfl rfl (Nat.le_of_ble_eq_true rfl) dX2_book_60 (fun H locs hP hD hS => ?_)
              have hP : va_P D vwCl ((hW K a z sd ho bk ow pl (va_up pn co (nI n1)) pm nm cn co qu (nI B) (nI q.length) (nI mh) fl).set (2 * co + 20 + 4) (a 3 co, gPar (a 4 co) (pl co) ((va_up pn co (nI n1)) co) mo)) H := hP
              have hD : va_D A ((hW K a z sd ho bk ow pl (va_up pn co (nI n1)) pm nm cn co qu (nI B) (nI q.length) (nI mh) fl).set (2 * co + 20 + 4) (a 3 co, gPar (a 4 co) (pl co) ((va_up pn co (nI n1)) co) mo)) := hD
              rw [hW_setPm hco] at hP hD
              refine lv_aload_n hx hb dX2_book_63 rfl (lv_at hl 0 rfl) ?_
              refine lv_aload_n hx hb dX2_book_64 rfl (lv_at hl 0 rfl) ?_
              refine va_get (C := RX2) (T := TX2) (N := 8) (ci := 2) hx hb hts hi_X2 hown hK hP (0) (rfl) rfl 3 (by decide) (hts (.fieldLink RX2 26 "GroupSeats" "coming" "LGroupSeats$Party;") (by decide +kernel)) (fun _ h9 => h9) rfl dX2_book_65 ?_
              refine g_calli (va_runV (As := [.ref _]) (rest := []) ⟨hx, hb, hml, hown, hts⟩ (c_goThrough l D K a z sd ho bk ow pl (va_up pn co (nI n1)) (va_up pm co mo) nm cn co qu B q.length mh fl co n1 mo li _ hco hz hlc hLc (va_up_self _ _ _) hn2 (va_up_self _ _ _) (by omega) (by omega)) (cwV 1 hts gX2_book_X2_goThrough rfl rfl rfl (by decide +kernel) ⟨(Nat.le_of_ble_eq_true rfl), (Nat.le_of_ble_eq_true rfl)⟩) (g_preV hK hP hD (ci := 2) (q0 := 0) rfl (rfl)) rfl rfl hl.1 rfl (lv_room (Nat.le_of_ble_eq_true rfl)) dX2_book_68 ⟨Nat.zero_le _, Nat.zero_le _⟩) hD hS hA (fun r68 wv H locs hw hP hD hS => ?_)
              by_cases hG : (goA z sd (nI B) n1 mo li n1 0 ow mh).1 = 0
              · obtain ⟨er, ho2, bk2, ew⟩ := hw.1 hG
                rw [ew] at hP hD
                rw [er]
                refine lv_istore_n (lv' := [(3, .int _), (0, .ref _), (1, .int _), (2, .int _)]) hx hb dX2_book_71 rfl hl (by decide) rfl (fun ls hl => ?_)
                refine lv_iload_n hx hb dX2_book_72 rfl (lv_at hl 0 rfl) ?_
                refine lv_bipush (v := -4) hx hb dX2_book_73 (by decide) ?_
                refine lv_icmp_ne (tgt := 99) hx hb dX2_book_75 (by decide) (fun c75 => ?_) (fun c75 => ?_)
                · refine lv_aload_n hx hb dX2_book_99 rfl (lv_at hl 1 rfl) ?_
                  refine va_get (C := RX2) (T := TX2) (N := 8) (ci := 2) hx hb hts hi_X2 hown hK hP (0) (rfl) rfl 3 (by decide) (hts (.fieldLink RX2 26 "GroupSeats" "coming" "LGroupSeats$Party;") (by decide +kernel)) (fun _ h9 => h9) rfl dX2_book_100 ?_
                  refine lv_iconst (v := 0) hx hb dX2_book_103 (by decide) ?_
                  refine va_put (C := RX0) (T := TX0) (N := 4) (ci := 0) (ty := .int) hx hb hts hi_X0 tyX0 tyX0_ok nmX0 hown hK hP hD hS (2 * co + 20 + 4) (hW_par hco) rfl 1 (by decide) (hts (.fieldLink RX2 59 "GroupSeats$Party" "listed" "I") (by decide +kernel)) (fun _ h9 => h9) rfl (by decide +kernel) rfl rfl (Nat.le_of_ble_eq_true rfl) dX2_book_104 (fun H locs hP hD hS => ?_)
                  have hP : va_P D vwCl ((hW K a z sd ho2 bk2 (goA z sd (nI B) n1 mo li n1 0 ow mh).2.1 pl (va_up pn co (nI n1)) (va_up pm co mo) nm cn co qu (nI (B + 1)) (nI q.length) (nI (goA z sd (nI B) n1 mo li n1 0 ow mh).2.2) fl).set (2 * co + 20 + 4) (a 3 co, gPar (a 4 co) 0 ((va_up pn co (nI n1)) co) ((va_up pm co mo) co))) H := hP
                  have hD : va_D A ((hW K a z sd ho2 bk2 (goA z sd (nI B) n1 mo li n1 0 ow mh).2.1 pl (va_up pn co (nI n1)) (va_up pm co mo) nm cn co qu (nI (B + 1)) (nI q.length) (nI (goA z sd (nI B) n1 mo li n1 0 ow mh).2.2) fl).set (2 * co + 20 + 4) (a 3 co, gPar (a 4 co) 0 ((va_up pn co (nI n1)) co) ((va_up pm co mo) co))) := hD
                  rw [hW_setPl (hco)] at hP hD
                  refine lv_iload_n hx hb dX2_book_107 rfl (lv_at hl 0 rfl) ?_
                  exact g_iret hx hb hr hlocks (Nat.le_of_ble_eq_true rfl) (Nat.le_of_ble_eq_true rfl) hK hP hD hS dX2_book_108 (by unfold opBook; rw [if_pos hc1, if_neg hls, if_pos hBl, ixN_nI (by omega)]; unfold opGo; rw [if_pos hG]; exact ⟨rfl, a, ho2, bk2, _, _, _, nm, co, qu, rfl, rfl, hM, PQ_l hM hq8 (PQ_n hM hq8 hPs), va_up_self _ _ _, isL_nil⟩)
                · exact absurd (congrArg Int32.toInt c75) (by rw [nI_toInt (by omega), show (-4 : Int32).toInt = -4 from rfl]; omega)
              · obtain ⟨er, ho2, bk2, ew⟩ := hw.2 hG
                rw [ew] at hP hD
                rw [er]
                refine lv_istore_n (lv' := [(3, .int _), (0, .ref _), (1, .int _), (2, .int _)]) hx hb dX2_book_71 rfl hl (by decide) rfl (fun ls hl => ?_)
                refine lv_iload_n hx hb dX2_book_72 rfl (lv_at hl 0 rfl) ?_
                refine lv_bipush (v := -4) hx hb dX2_book_73 (by decide) ?_
                refine lv_icmp_ne (tgt := 99) hx hb dX2_book_75 (by decide) (fun c75 => ?_) (fun c75 => ?_)
                · refine lv_aload_n hx hb dX2_book_99 rfl (lv_at hl 1 rfl) ?_
                  refine va_get (C := RX2) (T := TX2) (N := 8) (ci := 2) hx hb hts hi_X2 hown hK hP (0) (rfl) rfl 3 (by decide) (hts (.fieldLink RX2 26 "GroupSeats" "coming" "LGroupSeats$Party;") (by decide +kernel)) (fun _ h9 => h9) rfl dX2_book_100 ?_
                  refine lv_iconst (v := 0) hx hb dX2_book_103 (by decide) ?_
                  refine va_put (C := RX0) (T := TX0) (N := 4) (ci := 0) (ty := .int) hx hb hts hi_X0 tyX0 tyX0_ok nmX0 hown hK hP hD hS (2 * co + 20 + 4) (hW_par hco) rfl 1 (by decide) (hts (.fieldLink RX2 59 "GroupSeats$Party" "listed" "I") (by decide +kernel)) (fun _ h9 => h9) rfl (by decide +kernel) rfl rfl (Nat.le_of_ble_eq_true rfl) dX2_book_104 (fun H locs hP hD hS => ?_)
                  have hP : va_P D vwCl ((hW K a z sd ho2 bk2 ow pl (va_up pn co (nI n1)) (va_up pm co mo) nm cn co qu (nI B) (nI q.length) (nI (goA z sd (nI B) n1 mo li n1 0 ow mh).2.2) (fl + 1)).set (2 * co + 20 + 4) (a 3 co, gPar (a 4 co) 0 ((va_up pn co (nI n1)) co) ((va_up pm co mo) co))) H := hP
                  have hD : va_D A ((hW K a z sd ho2 bk2 ow pl (va_up pn co (nI n1)) (va_up pm co mo) nm cn co qu (nI B) (nI q.length) (nI (goA z sd (nI B) n1 mo li n1 0 ow mh).2.2) (fl + 1)).set (2 * co + 20 + 4) (a 3 co, gPar (a 4 co) 0 ((va_up pn co (nI n1)) co) ((va_up pm co mo) co))) := hD
                  rw [hW_setPl (hco)] at hP hD
                  refine lv_iload_n hx hb dX2_book_107 rfl (lv_at hl 0 rfl) ?_
                  exact g_iret hx hb hr hlocks (Nat.le_of_ble_eq_true rfl) (Nat.le_of_ble_eq_true rfl) hK hP hD hS dX2_book_108 (by unfold opBook; rw [if_pos hc1, if_neg hls, if_pos hBl, ixN_nI (by omega)]; unfold opGo; rw [if_neg hG, if_neg (fun h => c75 h.1)]; exact ⟨rfl, a, ho2, bk2, _, _, _, nm, co, qu, rfl, rfl, hM, PQ_l hM hq8 (PQ_n hM hq8 hPs), va_up_self _ _ _, isL_nil⟩)
                · refine lv_iload_n hx hb dX2_book_78 rfl (lv_at hl 3 rfl) ?_
                  refine lv_iconst (v := 2) hx hb dX2_book_79 (by decide) ?_
                  refine lv_icmp_ne (tgt := 99) hx hb dX2_book_80 (by decide) (fun c80 => ?_) (fun c80 => ?_)
                  · refine lv_aload_n hx hb dX2_book_99 rfl (lv_at hl 1 rfl) ?_
                    refine va_get (C := RX2) (T := TX2) (N := 8) (ci := 2) hx hb hts hi_X2 hown hK hP (0) (rfl) rfl 3 (by decide) (hts (.fieldLink RX2 26 "GroupSeats" "coming" "LGroupSeats$Party;") (by decide +kernel)) (fun _ h9 => h9) rfl dX2_book_100 ?_
                    refine lv_iconst (v := 0) hx hb dX2_book_103 (by decide) ?_
                    refine va_put (C := RX0) (T := TX0) (N := 4) (ci := 0) (ty := .int) hx hb hts hi_X0 tyX0 tyX0_ok nmX0 hown hK hP hD hS (2 * co + 20 + 4) (hW_par hco) rfl 1 (by decide) (hts (.fieldLink RX2 59 "GroupSeats$Party" "listed" "I") (by decide +kernel)) (fun _ h9 => h9) rfl (by decide +kernel) rfl rfl (Nat.le_of_ble_eq_true rfl) dX2_book_104 (fun H locs hP hD hS => ?_)
                    have hP : va_P D vwCl ((hW K a z sd ho2 bk2 ow pl (va_up pn co (nI n1)) (va_up pm co mo) nm cn co qu (nI B) (nI q.length) (nI (goA z sd (nI B) n1 mo li n1 0 ow mh).2.2) (fl + 1)).set (2 * co + 20 + 4) (a 3 co, gPar (a 4 co) 0 ((va_up pn co (nI n1)) co) ((va_up pm co mo) co))) H := hP
                    have hD : va_D A ((hW K a z sd ho2 bk2 ow pl (va_up pn co (nI n1)) (va_up pm co mo) nm cn co qu (nI B) (nI q.length) (nI (goA z sd (nI B) n1 mo li n1 0 ow mh).2.2) (fl + 1)).set (2 * co + 20 + 4) (a 3 co, gPar (a 4 co) 0 ((va_up pn co (nI n1)) co) ((va_up pm co mo) co))) := hD
                    rw [hW_setPl (hco)] at hP hD
                    refine lv_iload_n hx hb dX2_book_107 rfl (lv_at hl 0 rfl) ?_
                    exact g_iret hx hb hr hlocks (Nat.le_of_ble_eq_true rfl) (Nat.le_of_ble_eq_true rfl) hK hP hD hS dX2_book_108 (by unfold opBook; rw [if_pos hc1, if_neg hls, if_pos hBl, ixN_nI (by omega)]; unfold opGo; rw [if_neg hG, if_neg (fun h => c80 h.2.1)]; exact ⟨rfl, a, ho2, bk2, _, _, _, nm, co, qu, rfl, rfl, hM, PQ_l hM hq8 (PQ_n hM hq8 hPs), va_up_self _ _ _, isL_nil⟩)
                  · refine lv_aload_n hx hb dX2_book_83 rfl (lv_at hl 1 rfl) ?_
                    refine va_get (C := RX2) (T := TX2) (N := 8) (ci := 2) hx hb hts hi_X2 hown hK hP (0) (rfl) rfl 5 (by decide) (hts (.fieldLink RX2 77 "GroupSeats" "waiters" "I") (by decide +kernel)) (fun _ h9 => h9) rfl dX2_book_84 ?_
                    refine lv_bipush (v := 8) hx hb dX2_book_87 (by decide) ?_
                    refine lv_icmp_ge (tgt := 99) hx hb dX2_book_89 (by decide) (fun c89 => ?_) (fun c89 => ?_)
                    · refine lv_aload_n hx hb dX2_book_99 rfl (lv_at hl 1 rfl) ?_
                      refine va_get (C := RX2) (T := TX2) (N := 8) (ci := 2) hx hb hts hi_X2 hown hK hP (0) (rfl) rfl 3 (by decide) (hts (.fieldLink RX2 26 "GroupSeats" "coming" "LGroupSeats$Party;") (by decide +kernel)) (fun _ h9 => h9) rfl dX2_book_100 ?_
                      refine lv_iconst (v := 0) hx hb dX2_book_103 (by decide) ?_
                      refine va_put (C := RX0) (T := TX0) (N := 4) (ci := 0) (ty := .int) hx hb hts hi_X0 tyX0 tyX0_ok nmX0 hown hK hP hD hS (2 * co + 20 + 4) (hW_par hco) rfl 1 (by decide) (hts (.fieldLink RX2 59 "GroupSeats$Party" "listed" "I") (by decide +kernel)) (fun _ h9 => h9) rfl (by decide +kernel) rfl rfl (Nat.le_of_ble_eq_true rfl) dX2_book_104 (fun H locs hP hD hS => ?_)
                      have hP : va_P D vwCl ((hW K a z sd ho2 bk2 ow pl (va_up pn co (nI n1)) (va_up pm co mo) nm cn co qu (nI B) (nI q.length) (nI (goA z sd (nI B) n1 mo li n1 0 ow mh).2.2) (fl + 1)).set (2 * co + 20 + 4) (a 3 co, gPar (a 4 co) 0 ((va_up pn co (nI n1)) co) ((va_up pm co mo) co))) H := hP
                      have hD : va_D A ((hW K a z sd ho2 bk2 ow pl (va_up pn co (nI n1)) (va_up pm co mo) nm cn co qu (nI B) (nI q.length) (nI (goA z sd (nI B) n1 mo li n1 0 ow mh).2.2) (fl + 1)).set (2 * co + 20 + 4) (a 3 co, gPar (a 4 co) 0 ((va_up pn co (nI n1)) co) ((va_up pm co mo) co))) := hD
                      rw [hW_setPl (hco)] at hP hD
                      refine lv_iload_n hx hb dX2_book_107 rfl (lv_at hl 0 rfl) ?_
                      exact g_iret hx hb hr hlocks (Nat.le_of_ble_eq_true rfl) (Nat.le_of_ble_eq_true rfl) hK hP hD hS dX2_book_108 (by unfold opBook; rw [if_pos hc1, if_neg hls, if_pos hBl, ixN_nI (by omega)]; unfold opGo; rw [if_neg hG, if_neg (fun h => absurd ((nI_leI (a := 8) (by decide) (by omega)).mp c89) (by omega))]; exact ⟨rfl, a, ho2, bk2, _, _, _, nm, co, qu, rfl, rfl, hM, PQ_l hM hq8 (PQ_n hM hq8 hPs), va_up_self _ _ _, isL_nil⟩)
                    · have hq7 : q.length < 8 := Nat.lt_of_not_le (fun h => c89 (nI_le (a := 8) h (by omega)))
                      refine lv_aload_n hx hb dX2_book_92 rfl (lv_at hl 1 rfl) ?_
                      refine g_callv (va_runV (As := []) (rest := []) ⟨hx, hb, hml, hown, hts⟩ (c_queueUp l D K a z sd ho2 bk2 ow pl (va_up pn co (nI n1)) (va_up pm co mo) nm cn co qu B q.length (goA z sd (nI B) n1 mo li n1 0 ow mh).2.2 (fl + 1) _ hM hq7) (cwV 0 hts gX2_book_X2_queueUp rfl rfl rfl (by decide +kernel) ⟨(Nat.le_of_ble_eq_true rfl), (Nat.le_of_ble_eq_true rfl)⟩) (g_preV hK hP hD (ci := 2) (q0 := 0) rfl (rfl)) rfl rfl hl.1 rfl (lv_room (Nat.le_of_ble_eq_true rfl)) dX2_book_93 ⟨Nat.zero_le _, Nat.zero_le _⟩) hD hS hA (fun wv H locs hw hP hD hS => ?_)
                      rw [hw] at hP hD
                      refine lv_bipush (v := -7) hx hb dX2_book_96 (by decide) ?_
                      refine lv_istore_n (lv' := [(3, .int _), (0, .ref _), (1, .int _), (2, .int _)]) hx hb dX2_book_98 rfl hl (by decide) rfl (fun ls hl => ?_)
                      refine lv_aload_n hx hb dX2_book_99 rfl (lv_at hl 1 rfl) ?_
                      refine va_get (C := RX2) (T := TX2) (N := 8) (ci := 2) hx hb hts hi_X2 hown hK hP (0) (rfl) rfl 3 (by decide) (hts (.fieldLink RX2 26 "GroupSeats" "coming" "LGroupSeats$Party;") (by decide +kernel)) (fun _ h9 => h9) rfl dX2_book_100 ?_
                      refine lv_iconst (v := 0) hx hb dX2_book_103 (by decide) ?_
                      refine va_put (C := RX0) (T := TX0) (N := 4) (ci := 0) (ty := .int) hx hb hts hi_X0 tyX0 tyX0_ok nmX0 hown hK hP hD hS (2 * (qu q.length) + 20 + 4) (hW_par (hM.1 _ (by omega))) rfl 1 (by decide) (hts (.fieldLink RX2 59 "GroupSeats$Party" "listed" "I") (by decide +kernel)) (fun _ h9 => h9) rfl (by decide +kernel) rfl rfl (Nat.le_of_ble_eq_true rfl) dX2_book_104 (fun H locs hP hD hS => ?_)
                      have hP : va_P D vwCl ((hW K a z sd ho2 bk2 ow pl (va_up pn co (nI n1)) (va_up pm co mo) nm cn (qu q.length) (va_up qu q.length co) (nI B) (nI (q.length + 1)) (nI (goA z sd (nI B) n1 mo li n1 0 ow mh).2.2) (fl + 1)).set (2 * (qu q.length) + 20 + 4) (a 3 (qu q.length), gPar (a 4 (qu q.length)) 0 ((va_up pn co (nI n1)) (qu q.length)) ((va_up pm co mo) (qu q.length)))) H := hP
                      have hD : va_D A ((hW K a z sd ho2 bk2 ow pl (va_up pn co (nI n1)) (va_up pm co mo) nm cn (qu q.length) (va_up qu q.length co) (nI B) (nI (q.length + 1)) (nI (goA z sd (nI B) n1 mo li n1 0 ow mh).2.2) (fl + 1)).set (2 * (qu q.length) + 20 + 4) (a 3 (qu q.length), gPar (a 4 (qu q.length)) 0 ((va_up pn co (nI n1)) (qu q.length)) ((va_up pm co mo) (qu q.length)))) := hD
                      rw [hW_setPl (hM.1 _ (by omega))] at hP hD
                      refine lv_iload_n hx hb dX2_book_107 rfl (lv_at hl 0 rfl) ?_
                      exact g_iret hx hb hr hlocks (Nat.le_of_ble_eq_true rfl) (Nat.le_of_ble_eq_true rfl) hK hP hD hS dX2_book_108 (by unfold opBook; rw [if_pos hc1, if_neg hls, if_pos hBl, ixN_nI (by omega)]; unfold opGo; rw [if_neg hG, if_pos ⟨c75, c80, hq7⟩]; exact ⟨rfl, a, ho2, bk2, _, _, _, nm, _, _, rfl, by rw [List.length_append]; rfl, PM_que hM hq7, PQ_que hM hq7 (PQ_n hM hq8 hPs) ⟨hlc, va_up_self _ _ _, (va_up_self _ _ _).trans c80, hLc, hn1, hn2⟩, va_up_self _ _ _, isL_nil⟩)
            · refine lv_bipush (v := -3) hx hb dX2_book_44 (by decide) ?_
              exact g_iret hx hb hr hlocks (Nat.le_of_ble_eq_true rfl) (Nat.le_of_ble_eq_true rfl) hK hP hD hS dX2_book_46 (by have hc1 : (1 ≤ n ∧ n ≤ 60) ∧ 0 ≤ mo ∧ mo ≤ 2 := (by simp only [Int32.le_iff_toInt_le, Int32.lt_iff_toInt_lt, gl_m1, gl_0, gl_1, gl_2, gl_3, gl_5, gl_6, gl_8, gl_9, gl_10, gl_11, gl_20, gl_40, gl_60] at c2 c8 c12 c17 ⊢; omega); have hls : li.length ≠ 0 := (fun h => c29 (by rw [hlc, h]; rfl)); unfold opBook; rw [if_pos hc1, if_neg hls, if_neg (fun h => c41 (nI_lt (b := 40) h (by decide)))]; exact ⟨rfl, ⟨a, ho, bk, pl, pn, pm, nm, co, qu, rfl, rfl, hM, hPs, hlc, hLc⟩⟩)
          · refine lv_bipush (v := -2) hx hb dX2_book_32 (by decide) ?_
            exact g_iret hx hb hr hlocks (Nat.le_of_ble_eq_true rfl) (Nat.le_of_ble_eq_true rfl) hK hP hD hS dX2_book_34 (by have hc1 : (1 ≤ n ∧ n ≤ 60) ∧ 0 ≤ mo ∧ mo ≤ 2 := (by simp only [Int32.le_iff_toInt_le, Int32.lt_iff_toInt_lt, gl_m1, gl_0, gl_1, gl_2, gl_3, gl_5, gl_6, gl_8, gl_9, gl_10, gl_11, gl_20, gl_40, gl_60] at c2 c8 c12 c17 ⊢; omega); have hls : li.length = 0 := (nI_eq (by omega) (by decide)).mp (hlc.symm.trans c29); unfold opBook; rw [if_pos hc1, if_pos hls]; exact ⟨rfl, ⟨a, ho, bk, pl, pn, pm, nm, co, qu, rfl, rfl, hM, hPs, hlc, hLc⟩⟩)
        · refine lv_iconst (v := -1) hx hb dX2_book_20 (by decide) ?_
          exact g_iret hx hb hr hlocks (Nat.le_of_ble_eq_true rfl) (Nat.le_of_ble_eq_true rfl) hK hP hD hS dX2_book_21 (by unfold opBook; rw [if_neg (fun h => by simp only [inRow, Int32.le_iff_toInt_le, Int32.lt_iff_toInt_lt, gl_m1, gl_0, gl_1, gl_2, gl_3, gl_5, gl_6, gl_8, gl_9, gl_10, gl_11, gl_20, gl_40, gl_60] at h c2 c8 c12 c17; omega)]; exact ⟨rfl, ⟨a, ho, bk, pl, pn, pm, nm, co, qu, rfl, rfl, hM, hPs, hlc, hLc⟩⟩)
set_option maxHeartbeats 4000000 in
set_option maxRecDepth 100000 in
theorem lp_cancel {p : Program} {l : Launch} {e : Env} {s : State} {m : MethodId} {args : Array Value} {below : List Frame} {meth : Method} {c : Code} {A : Nat → Prop} {D : va_G} {K : gCl} {ws0 : va_W} {a : Nat → Nat → Nat} {z : Nat → Nat} {sd ho bk : Nat → Int32} {ow : Nat → Nat → Int32} {pl pn pm : Nat → Int32} {nm : Nat → Nat → Int32} {cn : Nat → Int32} {co : Nat} {qu : Nat → Nat} {B wt mh fl x : Int32} {post : Int32 → va_W → Prop} (hz : ∀ i, i < 10 → z i ≤ 20)
    (I : gIn p s m meth c A yX2_cancel wsX2_cancel cX2_cancel 3 (some .int) args D vwCl (gT K) ws0) (hE : ∀ (H : Heap) (locs : List Loc), va_P D vwCl (hW K a z sd ho bk (fo z ow x 10) pl pn pm nm cn co qu B wt mh fl) H → va_D A (hW K a z sd ho bk (fo z ow x 10) pl pn pm nm cn co qu B wt mh fl) → va_S A s.heap H locs → ∀ (ls : Array Slot), lv_has ls 3 [(2, .int (nI 10)), (0, .ref (a 0 0)), (1, .int x)] → W p l e ({ frames := 14, cells := 0, slots := 0, locals := 420 } : Room) s m args below meth c H locs 0 0 (MQ below (va_Qi (post) (gB D vwCl (gT K) A) A) args s 0 0 A) (F0 m 53 ls [])) :
    ∀ (k : Nat) (i : Nat) (H : Heap) (locs : List Loc), i + k = 10 → va_P D vwCl (hW K a z sd ho bk (fo z ow x i) pl pn pm nm cn co qu B wt mh fl) H → va_D A (hW K a z sd ho bk (fo z ow x i) pl pn pm nm cn co qu B wt mh fl) → va_S A s.heap H locs →
    ∀ (ls : Array Slot), lv_has ls 3 [(2, .int (nI i)), (0, .ref (a 0 0)), (1, .int x)] →
    W p l e ({ frames := 14, cells := 0, slots := 0, locals := 420 } : Room) s m args below meth c H locs 0 0 (MQ below (va_Qi (post) (gB D vwCl (gT K) A) A) args s 0 0 A) (F0 m 31 ls []) := by
  have I0 := I
  obtain ⟨hx, hb, hr, hml, hown, hts, hlocks, hnm, hA, hK, -, -, -⟩ := I
  have hown : s.vm.findClass RX2 = some m.cls := hown
  have hi_X2 : ∀ w ∈ u_ws RX2 TX2 8, w ∈ wsX2_cancel := by decide +kernel
  intro k
  induction k with
  | zero =>
    intro i H locs hi hP hD hS ls hl
    refine lv_iload_n hx hb dX2_cancel_31 rfl (lv_at hl 0 rfl) ?_
    refine lv_bipush (v := 10) hx hb dX2_cancel_32 (by decide) ?_
    refine lv_icmp_ge (tgt := 53) hx hb dX2_cancel_34 (by decide) (fun c34 => ?_) (fun c34 => ?_)
    · have hi10 : i = 10 := by omega
      subst hi10
      exact hE _ _ hP hD hS ls hl
    · exact absurd (nI_le (a := 10) (by omega) (by omega)) c34
  | succ k ih =>
    intro i H locs hi hP hD hS ls hl
    refine lv_iload_n hx hb dX2_cancel_31 rfl (lv_at hl 0 rfl) ?_
    refine lv_bipush (v := 10) hx hb dX2_cancel_32 (by decide) ?_
    refine lv_icmp_ge (tgt := 53) hx hb dX2_cancel_34 (by decide) (fun c34 => ?_) (fun c34 => ?_)
    · exact absurd c34 (nI_ge (b := 10) (by omega) (by decide))
    · refine lv_aload_n hx hb dX2_cancel_37 rfl (lv_at hl 1 rfl) ?_
      refine va_get (C := RX2) (T := TX2) (N := 8) (ci := 2) hx hb hts hi_X2 hown hK hP (0) (rfl) rfl 0 (by decide) (hts (.fieldLink RX2 11 "GroupSeats" "rows" "[LGroupSeats$Row;") (by decide +kernel)) (fun _ h9 => h9) rfl dX2_cancel_38 ?_
      refine lv_iload_n hx hb dX2_cancel_41 rfl (lv_at hl 0 rfl) ?_
      refine g_aldq hx hb hK hP (1) 2 (rfl) rfl (vp_in_nI (show i < 10 by omega) (by decide)) (gRf_at (show i < 10 by omega) (by decide)) dX2_cancel_42 ?_
      refine lv_iload_n hx hb dX2_cancel_43 rfl (lv_at hl 2 rfl) ?_
      refine g_callv (va_runV (As := [.int _]) (rest := []) ⟨hx, hb, hml, hown, hts⟩ (c_freeSeatsOf l D K _ (a 1 i) (a 2 i) (2 * i + 4) (2 * i + 1 + 4) (z i) (sd i) (ho i) (bk i) (fo z ow x i i) x _ (by omega) (hz i (by omega)) (hW_row (by omega)) (hW_own (by omega))) (cwV 1 hts gX2_cancel_X1_freeSeatsOf rfl rfl rfl (by decide +kernel) ⟨(Nat.le_of_ble_eq_true rfl), (Nat.le_of_ble_eq_true rfl)⟩) (g_preV hK hP hD (ci := 1) (q0 := 2 * i + 4) rfl (hW_row (by omega))) rfl rfl hl.1 rfl (lv_room (Nat.le_of_ble_eq_true rfl)) dX2_cancel_44 ⟨Nat.zero_le _, Nat.zero_le _⟩) hD hS hA (fun wv H locs hw hP hD hS => ?_)
      rw [hw, hW_setOwn (by omega), fo_at, fo_up] at hP hD
      refine lv_iinc (lv' := [(2, .int _), (0, .ref _), (1, .int _)]) hx hb dX2_cancel_47 hl (k := 0) rfl rfl (by decide) rfl (fun ls hl => ?_)
      refine lv_goto (tgt := 31) hx hb dX2_cancel_50 (by decide) ?_
      rw [g_inc] at hl
      exact ih (i + 1) H locs (by omega) hP hD hS ls (lv_sub hl [0, 1, 2] rfl)
set_option maxHeartbeats 4000000 in
set_option maxRecDepth 100000 in
/-- cancel -/
theorem h_cancel (l : Launch) (D : va_G) (K : gCl) (a : Nat → Nat → Nat) (z : Nat → Nat) (sd ho bk : Nat → Int32) (ow : Nat → Nat → Int32) (pl pn pm : Nat → Int32) (nm : Nat → Nat → Int32) (cn : Nat → Int32) (co : Nat) (qu : Nat → Nat) (B mh : Nat) (fl : Int32) (q : List Pty) (li : List Nat) (x : Int32) (sz : Nat) (hz : ∀ i, i < 10 → z i ≤ 20) (hB40 : B ≤ 40) (hq8 : q.length ≤ 8) (hmh6 : mh ≤ 6) (hM : PM qu co) (hPs : PQ pl pn pm nm qu 0 q) (hlc : pl co = nI li.length) (hLc : isL (nm co) li) : gMi l yX2_cancel wsX2_cancel ({ frames := 14, cells := 0, slots := 0, locals := 420 } : Room) D vwCl (gT K) [.ref (a 0 0), .int x] (hW K a z sd ho bk ow pl pn pm nm cn co qu (nI B) (nI q.length) (nI mh) fl) sz (RP K (a 0 0) (opCancel z sd ow cn B q li mh fl x)) 0 0 := by
  refine g_of (cc := cX2_cancel) (maxL := 3) (ret := (some .int)) (Qc := fun A => va_Qi (RP K (a 0 0) (opCancel z sd ow cn B q li mh fl x)) (gB D vwCl (gT K) A) A) (by decide) rfl (Nat.le_of_ble_eq_true rfl) ?_
  intro p e s m below meth c A ls I hl
  have I0 := I
  obtain ⟨hx, hb, hr, hml, hown, hts, hlocks, hnm, hA, hK, hP, hD, hS⟩ := I
  have hown : s.vm.findClass RX2 = some m.cls := hown
  have hl : lv_has ls 3 [(0, .ref (a 0 0)), (1, .int x)] := hl
  have hi_X2 : ∀ w ∈ u_ws RX2 TX2 8, w ∈ wsX2_cancel := by decide +kernel
  refine lv_aload_n hx hb dX2_cancel_0 rfl (lv_at hl 0 rfl) ?_
  refine lv_iload_n hx hb dX2_cancel_1 rfl (lv_at hl 1 rfl) ?_
  refine g_calli (va_runV (As := [.int _]) (rest := []) ⟨hx, hb, hml, hown, hts⟩ (c_isBooking l D K _ (a 0 0) (a 0 1) (a 0 2) (a 0 3) (a 3 co) (nI B) (nI q.length) (nI mh) fl _ _ rfl) (cwV 1 hts gX2_cancel_X2_isBooking rfl rfl rfl (by decide +kernel) ⟨(Nat.le_of_ble_eq_true rfl), (Nat.le_of_ble_eq_true rfl)⟩) (g_preV hK hP hD (ci := 2) (q0 := 0) rfl (rfl)) rfl rfl hl.1 rfl (lv_room (Nat.le_of_ble_eq_true rfl)) dX2_cancel_2 ⟨Nat.zero_le _, Nat.zero_le _⟩) hD hS hA (fun r2 wv H locs hw hP hD hS => ?_)
  obtain ⟨ew, e2⟩ := hw
  rw [ew] at hP hD
  refine lv_if_ne (tgt := 10) hx hb dX2_cancel_5 (by decide) (fun c5 => ?_) (fun c5 => ?_)
  · simp only [e2, Classical.not_not] at c5
    obtain ⟨b1, hb1, rfl⟩ := g_ixn (n := B) (by omega) c5
    refine lv_aload_n hx hb dX2_cancel_10 rfl (lv_at hl 0 rfl) ?_
    refine va_get (C := RX2) (T := TX2) (N := 8) (ci := 2) hx hb hts hi_X2 hown hK hP (0) (rfl) rfl 1 (by decide) (hts (.fieldLink RX2 15 "GroupSeats" "cancelled" "[Z") (by decide +kernel)) (fun _ h9 => h9) rfl dX2_cancel_11 ?_
    refine lv_iload_n hx hb dX2_cancel_14 rfl (lv_at hl 1 rfl) ?_
    refine va_zald hx hb hK hP (2) 1 (rfl) rfl (vp_in_nI (show b1 < 40 by omega) (by decide)) dX2_cancel_15 ?_
    refine lv_if_eq (tgt := 22) hx hb dX2_cancel_16 (by decide) (fun c16 => ?_) (fun c16 => ?_)
    · refine lv_aload_n hx hb dX2_cancel_22 rfl (lv_at hl 0 rfl) ?_
      refine va_get (C := RX2) (T := TX2) (N := 8) (ci := 2) hx hb hts hi_X2 hown hK hP (0) (rfl) rfl 1 (by decide) (hts (.fieldLink RX2 15 "GroupSeats" "cancelled" "[Z") (by decide +kernel)) (fun _ h9 => h9) rfl dX2_cancel_23 ?_
      refine lv_iload_n hx hb dX2_cancel_26 rfl (lv_at hl 1 rfl) ?_
      refine lv_iconst (v := 1) hx hb dX2_cancel_27 (by decide) ?_
      refine va_zast hx hb hK hP hD hS (2) 1 (rfl) rfl (vp_in_nI (show b1 < 40 by omega) (by decide)) dX2_cancel_28 (fun H locs hP hD hS => ?_)
      rw [nI_clamp (by omega), show vp_nar .boolean 1 = 1 from rfl] at hP hD
      have hP : va_P D vwCl (hW K a z sd ho bk ow pl pn pm nm (upd cn b1 1) co qu (nI B) (nI q.length) (nI mh) fl) H := hP
      have hD : va_D A (hW K a z sd ho bk ow pl pn pm nm (upd cn b1 1) co qu (nI B) (nI q.length) (nI mh) fl) := hD
      refine lv_iconst (v := 0) hx hb dX2_cancel_29 (by decide) ?_
      refine lv_istore_n (lv' := [(2, .int _), (0, .ref _), (1, .int _)]) hx hb dX2_cancel_30 rfl hl (by decide) rfl (fun ls hl => ?_)
      rw [nI_clamp (by omega)] at c16
      refine lp_cancel (x := nI b1) hz I0 ?_ 10 0 _ _ (by omega) (by rw [fo_0]; exact hP) (by rw [fo_0]; exact hD) hS ls (lv_sub hl [0, 1, 2] rfl)
      intro H locs hP hD hS ls hl
      refine lv_aload_n hx hb dX2_cancel_53 rfl (lv_at hl 1 rfl) ?_
      refine g_calli (va_runV (As := []) (rest := []) ⟨hx, hb, hml, hown, hts⟩ (c_try l D K a z sd ho bk (fo z ow (nI b1) 10) pl pn pm nm (upd cn b1 1) co qu B mh fl q _ hz hq8 hB40 hmh6 hM hPs) (cwV 0 hts gX2_cancel_X2_tryThoseWaiting rfl rfl rfl (by decide +kernel) ⟨(Nat.le_of_ble_eq_true rfl), (Nat.le_of_ble_eq_true rfl)⟩) (g_preV hK hP hD (ci := 2) (q0 := 0) rfl (rfl)) rfl rfl hl.1 rfl (lv_room (Nat.le_of_ble_eq_true rfl)) dX2_cancel_54 ⟨Nat.zero_le _, Nat.zero_le _⟩) hD hS hA (fun r54 wv H locs hw hP hD hS => ?_)
      obtain ⟨er, ho2, bk2, qu2, ew, hM2, hPs2⟩ := hw
      rw [ew] at hP hD
      exact g_iret hx hb hr hlocks (Nat.le_of_ble_eq_true rfl) (Nat.le_of_ble_eq_true rfl) hK hP hD hS dX2_cancel_57 (by unfold opCancel; rw [if_pos c5, ixN_nI (by omega), if_pos c16]; exact ⟨er, a, ho2, bk2, pl, pn, pm, nm, co, qu2, rfl, rfl, hM2, hPs2, hlc, hLc⟩)
    · refine lv_bipush (v := -2) hx hb dX2_cancel_19 (by decide) ?_
      exact g_iret hx hb hr hlocks (Nat.le_of_ble_eq_true rfl) (Nat.le_of_ble_eq_true rfl) hK hP hD hS dX2_cancel_21 (by rw [nI_clamp (by omega)] at c16; unfold opCancel; rw [if_pos c5, ixN_nI (by omega), if_neg c16]; exact ⟨rfl, ⟨a, ho, bk, pl, pn, pm, nm, co, qu, rfl, rfl, hM, hPs, hlc, hLc⟩⟩)
  · simp only [e2, Classical.not_not] at c5
    refine lv_iconst (v := -1) hx hb dX2_cancel_8 (by decide) ?_
    exact g_iret hx hb hr hlocks (Nat.le_of_ble_eq_true rfl) (Nat.le_of_ble_eq_true rfl) hK hP hD hS dX2_cancel_9 (by unfold opCancel; rw [if_neg c5]; exact ⟨rfl, ⟨a, ho, bk, pl, pn, pm, nm, co, qu, rfl, rfl, hM, hPs, hlc, hLc⟩⟩)
set_option maxHeartbeats 4000000 in
set_option maxRecDepth 100000 in
theorem lp_leave {p : Program} {l : Launch} {e : Env} {s : State} {m : MethodId} {args : Array Value} {below : List Frame} {meth : Method} {c : Code} {A : Nat → Prop} {D : va_G} {K : gCl} {ws0 : va_W} {a : Nat → Nat → Nat} {z : Nat → Nat} {sd ho bk : Nat → Int32} {ow : Nat → Nat → Int32} {pl pn pm : Nat → Int32} {nm : Nat → Nat → Int32} {cn : Nat → Int32} {co : Nat} {qu : Nat → Nat} {B mh fl x : Int32} {n k0 : Nat} {post : Int32 → va_W → Prop} (hM : PM qu co) (hn : n < 8)
    (I : gIn p s m meth c A yX2_leave wsX2_leave cX2_leave 4 (some .int) args D vwCl (gT K) ws0) (hE : ∀ (H : Heap) (locs : List Loc), va_P D vwCl (hW K a z sd ho bk ow pl pn pm nm cn co (shf qu k0 n) B (nI n) mh fl) H → va_D A (hW K a z sd ho bk ow pl pn pm nm cn co (shf qu k0 n) B (nI n) mh fl) → va_S A s.heap H locs → ∀ (ls : Array Slot), lv_has ls 4 [(3, .int (nI n)), (2, .ref (a 3 (qu k0))), (0, .ref (a 0 0)), (1, .int x)] → W p l e ({ frames := 14, cells := 0, slots := 0, locals := 420 } : Room) s m args below meth c H locs 0 0 (MQ below (va_Qi (post) (gB D vwCl (gT K) A) A) args s 0 0 A) (F0 m 57 ls [])) :
    ∀ (k : Nat) (i : Nat) (H : Heap) (locs : List Loc), i + k = n → k0 ≤ i → va_P D vwCl (hW K a z sd ho bk ow pl pn pm nm cn co (shf qu k0 i) B (nI n) mh fl) H → va_D A (hW K a z sd ho bk ow pl pn pm nm cn co (shf qu k0 i) B (nI n) mh fl) → va_S A s.heap H locs →
    ∀ (ls : Array Slot), lv_has ls 4 [(3, .int (nI i)), (2, .ref (a 3 (qu k0))), (0, .ref (a 0 0)), (1, .int x)] →
    W p l e ({ frames := 14, cells := 0, slots := 0, locals := 420 } : Room) s m args below meth c H locs 0 0 (MQ below (va_Qi (post) (gB D vwCl (gT K) A) A) args s 0 0 A) (F0 m 29 ls []) := by
  have I0 := I
  obtain ⟨hx, hb, hr, hml, hown, hts, hlocks, hnm, hA, hK, -, -, -⟩ := I
  have hown : s.vm.findClass RX2 = some m.cls := hown
  have hi_X2 : ∀ w ∈ u_ws RX2 TX2 8, w ∈ wsX2_leave := by decide +kernel
  intro k
  induction k with
  | zero =>
    intro i H locs hi hk0 hP hD hS ls hl
    refine lv_iload_n hx hb dX2_leave_29 rfl (lv_at hl 0 rfl) ?_
    refine lv_aload_n hx hb dX2_leave_30 rfl (lv_at hl 2 rfl) ?_
    refine va_get (C := RX2) (T := TX2) (N := 8) (ci := 2) hx hb hts hi_X2 hown hK hP (0) (rfl) rfl 5 (by decide) (hts (.fieldLink RX2 77 "GroupSeats" "waiters" "I") (by decide +kernel)) (fun _ h9 => h9) rfl dX2_leave_31 ?_
    refine lv_icmp_ge (tgt := 57) hx hb dX2_leave_34 (by decide) (fun c34 => ?_) (fun c34 => ?_)
    · have hin : i = n := by omega
      subst hin
      exact hE _ _ hP hD hS ls hl
    · exact absurd (nI_le (by omega) (by omega)) c34
  | succ k ih =>
    intro i H locs hi hk0 hP hD hS ls hl
    refine lv_iload_n hx hb dX2_leave_29 rfl (lv_at hl 0 rfl) ?_
    refine lv_aload_n hx hb dX2_leave_30 rfl (lv_at hl 2 rfl) ?_
    refine va_get (C := RX2) (T := TX2) (N := 8) (ci := 2) hx hb hts hi_X2 hown hK hP (0) (rfl) rfl 5 (by decide) (hts (.fieldLink RX2 77 "GroupSeats" "waiters" "I") (by decide +kernel)) (fun _ h9 => h9) rfl dX2_leave_31 ?_
    refine lv_icmp_ge (tgt := 57) hx hb dX2_leave_34 (by decide) (fun c34 => ?_) (fun c34 => ?_)
    · exact absurd c34 (nI_ge (by omega) (by omega))
    · refine lv_aload_n hx hb dX2_leave_37 rfl (lv_at hl 2 rfl) ?_
      refine va_get (C := RX2) (T := TX2) (N := 8) (ci := 2) hx hb hts hi_X2 hown hK hP (0) (rfl) rfl 2 (by decide) (hts (.fieldLink RX2 21 "GroupSeats" "queue" "[LGroupSeats$Party;") (by decide +kernel)) (fun _ h9 => h9) rfl dX2_leave_38 ?_
      refine lv_iload_n hx hb dX2_leave_41 rfl (lv_at hl 0 rfl) ?_
      refine lv_aload_n hx hb dX2_leave_42 rfl (lv_at hl 2 rfl) ?_
      refine va_get (C := RX2) (T := TX2) (N := 8) (ci := 2) hx hb hts hi_X2 hown hK hP (0) (rfl) rfl 2 (by decide) (hts (.fieldLink RX2 21 "GroupSeats" "queue" "[LGroupSeats$Party;") (by decide +kernel)) (fun _ h9 => h9) rfl dX2_leave_43 ?_
      refine lv_iload_n hx hb dX2_leave_46 rfl (lv_at hl 0 rfl) ?_
      refine lv_iconst (v := 1) hx hb dX2_leave_47 (by decide) ?_
      refine lv_iadd hx hb dX2_leave_48 ?_
      rw [nI_1]
      refine g_aldq hx hb hK hP (3) 3 (rfl) rfl (vp_in_nI (show i + 1 < 8 by omega) (by decide)) (gRf_at (show i + 1 < 8 by omega) (by decide)) dX2_leave_49 ?_
      rw [shf_next]
      refine va_astq hx hb hK hP hD hS 3 3 (2 * (qu (i + 1)) + 20 + 4) 0 rfl rfl (hW_par (hM.1 _ (by omega))) rfl (vp_in_nI (show i < 8 by omega) (by decide)) dX2_leave_50 (fun H locs hP hD hS => ?_)
      have hP : va_P D vwCl ((hW K a z sd ho bk ow pl pn pm nm cn co (shf qu k0 i) B (nI n) mh fl).set (3) (a 0 3, gRef K.2.2.2 8 (va_up (gRf 8 (fun t => a 3 (shf qu k0 i t))) (nI i).toNatClampNeg (some (a 3 (qu (i + 1))))))) H := hP
      have hD : va_D A ((hW K a z sd ho bk ow pl pn pm nm cn co (shf qu k0 i) B (nI n) mh fl).set (3) (a 0 3, gRef K.2.2.2 8 (va_up (gRf 8 (fun t => a 3 (shf qu k0 i t))) (nI i).toNatClampNeg (some (a 3 (qu (i + 1))))))) := hD
      rw [hW_setQu (show i < 8 by omega), shf_up (by omega)] at hP hD
      refine lv_iinc (lv' := [(3, .int _), (2, .ref _), (0, .ref _), (1, .int _)]) hx hb dX2_leave_51 hl (k := 0) rfl rfl (by decide) rfl (fun ls hl => ?_)
      refine lv_goto (tgt := 29) hx hb dX2_leave_54 (by decide) ?_
      rw [g_inc] at hl
      exact ih (i + 1) H locs (by omega) (by omega) hP hD hS ls (lv_sub hl [0, 1, 2, 3] rfl)
set_option maxHeartbeats 4000000 in
set_option maxRecDepth 100000 in
/-- leave -/
theorem h_leave (l : Launch) (D : va_G) (K : gCl) (a : Nat → Nat → Nat) (z : Nat → Nat) (sd ho bk : Nat → Int32) (ow : Nat → Nat → Int32) (pl pn pm : Nat → Int32) (nm : Nat → Nat → Int32) (cn : Nat → Int32) (co : Nat) (qu : Nat → Nat) (B mh : Nat) (fl : Int32) (q : List Pty) (li : List Nat) (x : Int32) (sz : Nat) (hz : ∀ i, i < 10 → z i ≤ 20) (hB40 : B ≤ 40) (hq8 : q.length ≤ 8) (hmh6 : mh ≤ 6) (hM : PM qu co) (hPs : PQ pl pn pm nm qu 0 q) (hlc : pl co = nI li.length) (hLc : isL (nm co) li) : gMi l yX2_leave wsX2_leave ({ frames := 14, cells := 0, slots := 0, locals := 420 } : Room) D vwCl (gT K) [.ref (a 0 0), .int x] (hW K a z sd ho bk ow pl pn pm nm cn co qu (nI B) (nI q.length) (nI mh) fl) sz (RP K (a 0 0) (opLeave z sd ow cn B q li mh fl x)) 0 0 := by
  refine g_of (cc := cX2_leave) (maxL := 4) (ret := (some .int)) (Qc := fun A => va_Qi (RP K (a 0 0) (opLeave z sd ow cn B q li mh fl x)) (gB D vwCl (gT K) A) A) (by decide) rfl (Nat.le_of_ble_eq_true rfl) ?_
  intro p e s m below meth c A ls I hl
  have I0 := I
  obtain ⟨hx, hb, hr, hml, hown, hts, hlocks, hnm, hA, hK, hP, hD, hS⟩ := I
  have hown : s.vm.findClass RX2 = some m.cls := hown
  have hl : lv_has ls 4 [(0, .ref (a 0 0)), (1, .int x)] := hl
  have hi_X2 : ∀ w ∈ u_ws RX2 TX2 8, w ∈ wsX2_leave := by decide +kernel
  have hi_X0 : ∀ w ∈ u_ws RX0 TX0 4, w ∈ wsX2_leave := by decide +kernel
  refine lv_aload_n hx hb dX2_leave_0 rfl (lv_at hl 0 rfl) ?_
  refine lv_iload_n hx hb dX2_leave_1 rfl (lv_at hl 1 rfl) ?_
  refine g_calli (va_runV (As := [.int _]) (rest := []) ⟨hx, hb, hml, hown, hts⟩ (c_isWaiting l D K _ (a 0 0) (a 0 1) (a 0 2) (a 0 3) (a 3 co) (nI B) (nI q.length) (nI mh) fl _ _ rfl) (cwV 1 hts gX2_leave_X2_isWaiting rfl rfl rfl (by decide +kernel) ⟨(Nat.le_of_ble_eq_true rfl), (Nat.le_of_ble_eq_true rfl)⟩) (g_preV hK hP hD (ci := 2) (q0 := 0) rfl (rfl)) rfl rfl hl.1 rfl (lv_room (Nat.le_of_ble_eq_true rfl)) dX2_leave_2 ⟨Nat.zero_le _, Nat.zero_le _⟩) hD hS hA (fun r2 wv H locs hw hP hD hS => ?_)
  obtain ⟨ew, e2⟩ := hw
  rw [ew] at hP hD
  refine lv_if_ne (tgt := 10) hx hb dX2_leave_5 (by decide) (fun c5 => ?_) (fun c5 => ?_)
  · simp only [e2, Classical.not_not] at c5
    obtain ⟨k0, hk0, rfl⟩ := g_ixn (n := q.length) (by omega) c5
    have hR := hPs k0 q[k0] (List.getElem?_eq_getElem hk0)
    rw [Nat.zero_add] at hR
    have hxk : ixN (nI k0) = k0 := ixN_nI (by omega)
    have hgd : q.getD k0 (0, []) = q[k0] := by simp [List.getD_eq_getElem?_getD, hk0]
    refine lv_aload_n hx hb dX2_leave_10 rfl (lv_at hl 0 rfl) ?_
    refine va_get (C := RX2) (T := TX2) (N := 8) (ci := 2) hx hb hts hi_X2 hown hK hP (0) (rfl) rfl 2 (by decide) (hts (.fieldLink RX2 21 "GroupSeats" "queue" "[LGroupSeats$Party;") (by decide +kernel)) (fun _ h9 => h9) rfl dX2_leave_11 ?_
    refine lv_iload_n hx hb dX2_leave_14 rfl (lv_at hl 1 rfl) ?_
    refine g_aldq hx hb hK hP (3) 3 (rfl) rfl (vp_in_nI (show k0 < 8 by omega) (by decide)) (gRf_at (show k0 < 8 by omega) (by decide)) dX2_leave_15 ?_
    refine lv_astore_n (lv' := [(2, .ref _), (0, .ref _), (1, .int _)]) hx hb dX2_leave_16 rfl hl (by decide) rfl (fun ls hl => ?_)
    refine lv_aload_n hx hb dX2_leave_17 rfl (lv_at hl 1 rfl) ?_
    refine lv_dup hx hb dX2_leave_18 rfl ?_
    refine va_get (C := RX2) (T := TX2) (N := 8) (ci := 2) hx hb hts hi_X2 hown hK hP (0) (rfl) rfl 5 (by decide) (hts (.fieldLink RX2 77 "GroupSeats" "waiters" "I") (by decide +kernel)) (fun _ h9 => h9) rfl dX2_leave_19 ?_
    refine lv_iconst (v := 1) hx hb dX2_leave_22 (by decide) ?_
    refine lv_isub hx hb dX2_leave_23 ?_
    refine va_put (C := RX2) (T := TX2) (N := 8) (ci := 2) (ty := .int) hx hb hts hi_X2 tyX2 tyX2_ok nmX2 hown hK hP hD hS (0) (rfl) rfl 5 (by decide) (hts (.fieldLink RX2 77 "GroupSeats" "waiters" "I") (by decide +kernel)) (fun _ h9 => h9) rfl (by decide +kernel) rfl rfl (Nat.le_of_ble_eq_true rfl) dX2_leave_24 (fun H locs hP hD hS => ?_)
    have hP : va_P D vwCl (hW K a z sd ho bk ow pl pn pm nm cn co qu (nI B) (nI q.length - 1) (nI mh) fl) H := hP
    have hD : va_D A (hW K a z sd ho bk ow pl pn pm nm cn co qu (nI B) (nI q.length - 1) (nI mh) fl) := hD
    rw [show nI q.length - 1 = nI (q.length - 1) from by have := nI_pred (q.length - 1); rw [show q.length - 1 + 1 = q.length by omega] at this; exact this] at hP hD
    refine lv_iload_n hx hb dX2_leave_27 rfl (lv_at hl 2 rfl) ?_
    refine lv_istore_n (lv' := [(3, .int _), (2, .ref _), (0, .ref _), (1, .int _)]) hx hb dX2_leave_28 rfl hl (by decide) rfl (fun ls hl => ?_)
    refine lp_leave (x := nI k0) (k0 := k0) (n := q.length - 1) hM (by omega) I0 ?_ (q.length - 1 - k0) k0 _ _ (by omega) (by omega) (by rw [shf_k]; exact hP) (by rw [shf_k]; exact hD) hS ls (lv_sub hl [0, 1, 2, 3] rfl)
    intro H locs hP hD hS ls hl
    refine lv_aload_n hx hb dX2_leave_57 rfl (lv_at hl 2 rfl) ?_
    refine va_get (C := RX2) (T := TX2) (N := 8) (ci := 2) hx hb hts hi_X2 hown hK hP (0) (rfl) rfl 2 (by decide) (hts (.fieldLink RX2 21 "GroupSeats" "queue" "[LGroupSeats$Party;") (by decide +kernel)) (fun _ h9 => h9) rfl dX2_leave_58 ?_
    refine lv_aload_n hx hb dX2_leave_61 rfl (lv_at hl 2 rfl) ?_
    refine va_get (C := RX2) (T := TX2) (N := 8) (ci := 2) hx hb hts hi_X2 hown hK hP (0) (rfl) rfl 5 (by decide) (hts (.fieldLink RX2 77 "GroupSeats" "waiters" "I") (by decide +kernel)) (fun _ h9 => h9) rfl dX2_leave_62 ?_
    refine lv_aload_n hx hb dX2_leave_65 rfl (lv_at hl 1 rfl) ?_
    refine va_astq hx hb hK hP hD hS 3 3 (2 * (qu k0) + 20 + 4) 0 rfl rfl (hW_par (hM.1 _ (by omega))) rfl (vp_in_nI (show q.length - 1 < 8 by omega) (by decide)) dX2_leave_66 (fun H locs hP hD hS => ?_)
    have hP : va_P D vwCl ((hW K a z sd ho bk ow pl pn pm nm cn co (shf qu k0 (q.length - 1)) (nI B) (nI (q.length - 1)) (nI mh) fl).set (3) (a 0 3, gRef K.2.2.2 8 (va_up (gRf 8 (fun t => a 3 (shf qu k0 (q.length - 1) t))) (nI (q.length - 1)).toNatClampNeg (some (a 3 (qu k0)))))) H := hP
    have hD : va_D A ((hW K a z sd ho bk ow pl pn pm nm cn co (shf qu k0 (q.length - 1)) (nI B) (nI (q.length - 1)) (nI mh) fl).set (3) (a 0 3, gRef K.2.2.2 8 (va_up (gRf 8 (fun t => a 3 (shf qu k0 (q.length - 1) t))) (nI (q.length - 1)).toNatClampNeg (some (a 3 (qu k0)))))) := hD
    rw [hW_setQu (show q.length - 1 < 8 by omega)] at hP hD
    refine lv_aload_n hx hb dX2_leave_67 rfl (lv_at hl 1 rfl) ?_
    refine va_get (C := RX0) (T := TX0) (N := 4) (ci := 0) hx hb hts hi_X0 hown hK hP (2 * (qu k0) + 20 + 4) (hW_par (hM.1 _ (by omega))) rfl 2 (by decide) (hts (.fieldLink RX2 69 "GroupSeats$Party" "size" "I") (by decide +kernel)) (fun _ h9 => h9) rfl dX2_leave_68 ?_
    exact g_iret hx hb hr hlocks (Nat.le_of_ble_eq_true rfl) (Nat.le_of_ble_eq_true rfl) hK hP hD hS dX2_leave_71 (by unfold opLeave; rw [if_pos c5, hxk, hgd]; exact ⟨hR.2.1, a, ho, bk, pl, pn, pm, nm, co, rot qu k0 (q.length - 1), rfl, by rw [List.length_eraseIdx_of_lt hk0]; rfl, PM_rot hM (by omega) (by omega), PQ_rot hk0 hPs, hlc, hLc⟩)
  · simp only [e2, Classical.not_not] at c5
    refine lv_iconst (v := -1) hx hb dX2_leave_8 (by decide) ?_
    exact g_iret hx hb hr hlocks (Nat.le_of_ble_eq_true rfl) (Nat.le_of_ble_eq_true rfl) hK hP hD hS dX2_leave_9 (by unfold opLeave; rw [if_neg c5]; exact ⟨rfl, ⟨a, ho, bk, pl, pn, pm, nm, co, qu, rfl, rfl, hM, hPs, hlc, hLc⟩⟩)
