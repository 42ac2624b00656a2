theorem gsN_row {K : gCl} {h0 hr hc hq : Nat} {ra oa pa na : Nat → Nat} {j : Nat} (hj : j < 10) : (gsN K h0 hr hc hq ra oa pa na)[2 * j + 4]? = some (ra j, gRow (oa j) 0 0 0 0) := gsW_row hj
theorem gsN_own {K : gCl} {h0 hr hc hq : Nat} {ra oa pa na : Nat → Nat} {j : Nat} (hj : j < 10) : (gsN K h0 hr hc hq ra oa pa na)[2 * j + 1 + 4]? = some (oa j, gArr K.1 20 (fun _ => 0)) := gsW_own hj
theorem gsN_par0 {K : gCl} {h0 hr hc hq : Nat} {ra oa pa na : Nat → Nat} : (gsN K h0 hr hc hq ra oa pa na)[24]? = some (pa 0, gPar (na 0) 0 0 0) := gsW_par (j := 0) (by decide)
theorem gsN_num0 {K : gCl} {h0 hr hc hq : Nat} {ra oa pa na : Nat → Nat} : (gsN K h0 hr hc hq ra oa pa na)[25]? = some (na 0, gArr K.1 6 (fun _ => 0)) := gsW_num (j := 0) (by decide)
theorem g_in0_6 : vp_in 0 6 := by unfold vp_in; decide
theorem g_sw (x : Int32) (n : Nat) (hn : n < 2 ^ 31) : (x.toInt < 0 ∨ (n : Int) < x.toInt) ∨ ∃ j : Nat, j ≤ n ∧ x = nI j := by
  by_cases h0 : x.toInt < 0
  · exact Or.inl (Or.inl h0)
  · by_cases h1 : (n : Int) < x.toInt
    · exact Or.inl (Or.inr h1)
    · obtain ⟨j, hj, rfl⟩ := nI_of (x := x) (by rw [Int32.lt_iff_toInt_lt, gl_0]; exact h0)
      rw [nI_toInt hj] at h1
      exact Or.inr ⟨j, by omega, rfl⟩
/-! what a new hall answers to its first call -/
def eOpen (x n : Int32) : Int32 := if (0 ≤ x ∧ x < 10) ∧ (1 ≤ n ∧ n ≤ 20) then 0 else -1
def eShut (x : Int32) : Int32 := if 0 ≤ x ∧ x < 10 then -2 else -1
def eList (x : Int32) : Int32 := if 0 ≤ x ∧ x ≤ 11 then 1 else -1
def eBook (n mo : Int32) : Int32 := if (1 ≤ n ∧ n ≤ 60) ∧ (0 ≤ mo ∧ mo ≤ 2) then -2 else -1
def eSeat (x i : Int32) : Int32 := if (0 ≤ x ∧ x < 10) ∧ 0 ≤ i then -2 else -1
def eAbout (x k : Int32) : Int32 := if (0 ≤ x ∧ x < 10) ∧ (0 ≤ k ∧ k ≤ 3) then -2 else -1
def eTold (k : Int32) : Int32 := if 0 ≤ k ∧ k ≤ 5 then 0 else -1
set_option maxHeartbeats 4000000 in
set_option maxRecDepth 100000 in
/-- tryThoseWaiting() where nobody waits -/
theorem c_try0 (l : Launch) (D : va_G) (K : gCl) (ws : va_W) (h0 ar ac aq co : Nat) (bk mh fl : Int32) (sz : Nat) (he : ws[0]? = some (h0, gObj ar ac aq co bk 0 mh fl)) : gMi l yX2_tryThoseWaiting wsX2_tryThoseWaiting ({ frames := 0, cells := 0, slots := 0, locals := 0 } : Room) D vwCl (gT K) [.ref h0] (ws) sz (fun r _ => r = 0) 0 0 := by
  refine g_of (cc := cX2_tryThoseWaiting) (maxL := 5) (ret := (some .int)) (Qc := fun A => va_Qi (fun r _ => r = 0) (gB D vwCl (gT K) A) A) (by decide) rfl (Nat.le_of_ble_eq_true rfl) ?_
  intro p e s m below meth c A ls I hl
  have I0 := I
  obtain ⟨hx, hb, hr, hml, hown, hts, hlocks, hnm, hA, hK, hP, hD, hS⟩ := I
  have hown : s.vm.findClass RX2 = some m.cls := hown
  have hl : lv_has ls 5 [(0, .ref h0)] := hl
  have hi_X2 : ∀ w ∈ u_ws RX2 TX2 8, w ∈ wsX2_tryThoseWaiting := by decide +kernel
  refine lv_iconst (v := 0) hx hb dX2_tryThoseWaiting_0 (by decide) ?_
  refine lv_istore_n (lv' := [(1, .int _), (0, .ref _)]) hx hb dX2_tryThoseWaiting_1 rfl hl (by decide) rfl (fun ls hl => ?_)
  refine lv_iconst (v := 0) hx hb dX2_tryThoseWaiting_2 (by decide) ?_
  refine lv_istore_n (lv' := [(2, .int _), (1, .int _), (0, .ref _)]) hx hb dX2_tryThoseWaiting_3 rfl hl (by decide) rfl (fun ls hl => ?_)
  refine lv_iload_n hx hb dX2_tryThoseWaiting_4 rfl (lv_at hl 0 rfl) ?_
  refine lv_aload_n hx hb dX2_tryThoseWaiting_5 rfl (lv_at hl 2 rfl) ?_
  refine va_get (C := RX2) (T := TX2) (N := 8) (ci := 2) hx hb hts hi_X2 hown hK hP (0) (he) rfl 5 (by decide) (hts (.fieldLink RX2 77 "GroupSeats" "waiters" "I") (by decide +kernel)) (fun _ h9 => h9) rfl dX2_tryThoseWaiting_6 ?_
  refine lv_icmp_ge (tgt := 76) hx hb dX2_tryThoseWaiting_9 (by decide) (fun c9 => ?_) (fun c9 => ?_)
  · refine lv_aload_n hx hb dX2_tryThoseWaiting_76 rfl (lv_at hl 2 rfl) ?_
    refine va_get (C := RX2) (T := TX2) (N := 8) (ci := 2) hx hb hts hi_X2 hown hK hP (0) (he) rfl 5 (by decide) (hts (.fieldLink RX2 77 "GroupSeats" "waiters" "I") (by decide +kernel)) (fun _ h9 => h9) rfl dX2_tryThoseWaiting_77 ?_
    refine lv_iload_n hx hb dX2_tryThoseWaiting_80 rfl (lv_at hl 1 rfl) ?_
    refine lv_isub hx hb dX2_tryThoseWaiting_81 ?_
    refine lv_istore_n (lv' := [(2, .int _), (1, .int _), (0, .ref _)]) hx hb dX2_tryThoseWaiting_82 rfl hl (by decide) rfl (fun ls hl => ?_)
    refine lv_aload_n hx hb dX2_tryThoseWaiting_83 rfl (lv_at hl 2 rfl) ?_
    refine lv_iload_n hx hb dX2_tryThoseWaiting_84 rfl (lv_at hl 1 rfl) ?_
    refine va_put (C := RX2) (T := TX2) (N := 8) (ci := 2) (ty := .int) hx hb hts hi_X2 tyX2 tyX2_ok nmX2 hown hK hP hD hS (0) (he) rfl 5 (by decide) (hts (.fieldLink RX2 77 "GroupSeats" "waiters" "I") (by decide +kernel)) (fun _ h9 => h9) rfl (by decide +kernel) rfl rfl (Nat.le_of_ble_eq_true rfl) dX2_tryThoseWaiting_85 (fun H locs hP hD hS => ?_)
    refine lv_iload_n hx hb dX2_tryThoseWaiting_88 rfl (lv_at hl 0 rfl) ?_
    exact g_iret hx hb hr hlocks (Nat.le_of_ble_eq_true rfl) (Nat.le_of_ble_eq_true rfl) hK hP hD hS dX2_tryThoseWaiting_89 (by decide)
  · exact absurd (by decide) c9
set_option maxHeartbeats 4000000 in
set_option maxRecDepth 100000 in
theorem c_open (l : Launch) (D : va_G) (K : gCl) (h0 ar ac aq : Nat) (ra oa pa na : Nat → Nat) (x n : Int32) (sz : Nat)  : gMi l yX2_open wsX2_open ({ frames := 3, cells := 0, slots := 0, locals := 120 } : Room) D vwCl (gT K) [.ref h0, .int x, .int n] (gsN K h0 ar ac aq ra oa pa na) sz (fun r _ => r = eOpen x n) 0 0 := by
  refine g_of (cc := cX2_open) (maxL := 3) (ret := (some .int)) (Qc := fun A => va_Qi (fun r _ => r = eOpen x n) (gB D vwCl (gT K) A) A) (by decide) rfl (Nat.le_of_ble_eq_true rfl) ?_
  intro p e s m below meth c A ls I hl
  have I0 := I
  obtain ⟨hx, hb, hr, hml, hown, hts, hlocks, hnm, hA, hK, hP, hD, hS⟩ := I
  have hown : s.vm.findClass RX2 = some m.cls := hown
  have hl : lv_has ls 3 [(0, .ref h0), (1, .int x), (2, .int n)] := hl
  have hi_X2 : ∀ w ∈ u_ws RX2 TX2 8, w ∈ wsX2_open := by decide +kernel
  have hi_X1 : ∀ w ∈ u_ws RX1 TX1 5, w ∈ wsX2_open := by decide +kernel
  refine lv_iload_n hx hb dX2_open_0 rfl (lv_at hl 1 rfl) ?_
  refine g_calli (va_runS (As := [.int _]) (rest := []) ⟨hx, hb, hml, hown, hts⟩ (c_isRow l D K _ x _) (va_cwS 1 hts gX2_open_X2_isRow rfl rfl rfl (by decide +kernel) ⟨(Nat.le_of_ble_eq_true rfl), (Nat.le_of_ble_eq_true rfl)⟩) (g_preS hK hP hD) rfl rfl hl.1 rfl (lv_room (Nat.le_of_ble_eq_true rfl)) dX2_open_1 ⟨Nat.zero_le _, Nat.zero_le _⟩) hD hS hA (fun r1 w H locs hw hP hD hS => ?_)
  obtain ⟨rfl, e1⟩ := hw
  refine lv_if_eq (tgt := 18) hx hb dX2_open_4 (by decide) (fun c4 => ?_) (fun c4 => ?_)
  · simp only [e1, Classical.not_not] at c4
    refine lv_iconst (v := -1) hx hb dX2_open_18 (by decide) ?_
    exact g_iret hx hb hr hlocks (Nat.le_of_ble_eq_true rfl) (Nat.le_of_ble_eq_true rfl) hK hP hD hS dX2_open_19 (by unfold eOpen; split <;> rename_i h <;> first | rfl | decide | (exfalso; simp only [Int32.le_iff_toInt_le, Int32.lt_iff_toInt_lt, gl_m1, gl_0, gl_1, gl_2, gl_3, gl_5, gl_6, gl_8, gl_9, gl_10, gl_11, gl_20, gl_40, gl_60] at h c4; omega))
  · simp only [e1, Classical.not_not] at c4
    refine lv_iload_n hx hb dX2_open_7 rfl (lv_at hl 2 rfl) ?_
    refine lv_iconst (v := 1) hx hb dX2_open_8 (by decide) ?_
    refine lv_icmp_lt (tgt := 18) hx hb dX2_open_9 (by decide) (fun c9 => ?_) (fun c9 => ?_)
    · refine lv_iconst (v := -1) hx hb dX2_open_18 (by decide) ?_
      exact g_iret hx hb hr hlocks (Nat.le_of_ble_eq_true rfl) (Nat.le_of_ble_eq_true rfl) hK hP hD hS dX2_open_19 (by unfold eOpen; split <;> rename_i h <;> first | rfl | decide | (exfalso; simp only [Int32.le_iff_toInt_le, Int32.lt_iff_toInt_lt, gl_m1, gl_0, gl_1, gl_2, gl_3, gl_5, gl_6, gl_8, gl_9, gl_10, gl_11, gl_20, gl_40, gl_60] at h c4 c9; omega))
    · refine lv_iload_n hx hb dX2_open_12 rfl (lv_at hl 2 rfl) ?_
      refine lv_bipush (v := 20) hx hb dX2_open_13 (by decide) ?_
      refine lv_icmp_le (tgt := 20) hx hb dX2_open_15 (by decide) (fun c15 => ?_) (fun c15 => ?_)
      · obtain ⟨j, hj, rfl⟩ := g_ix (n := 10) rfl c4
        refine lv_aload_n hx hb dX2_open_20 rfl (lv_at hl 0 rfl) ?_
        refine va_get (C := RX2) (T := TX2) (N := 8) (ci := 2) hx hb hts hi_X2 hown hK hP (0) (rfl) rfl 0 (by decide) (hts (.fieldLink RX2 11 "GroupSeats" "rows" "[LGroupSeats$Row;") (by decide +kernel)) (fun _ h9 => h9) rfl dX2_open_21 ?_
        refine lv_iload_n hx hb dX2_open_24 rfl (lv_at hl 1 rfl) ?_
        refine g_aldq hx hb hK hP (1) 2 (rfl) rfl (vp_in_nI hj (by decide)) (gRf_at hj (by decide)) dX2_open_25 ?_
        refine g_calli (va_runV (As := []) (rest := []) ⟨hx, hb, hml, hown, hts⟩ (c_isOpen l D K _ (ra j) (oa j) (2 * j + 4) 0 0 0 0 _ (gsN_row hj)) (cwV 0 hts gX2_open_X1_isOpen rfl rfl rfl (by decide +kernel) ⟨(Nat.le_of_ble_eq_true rfl), (Nat.le_of_ble_eq_true rfl)⟩) (g_preV hK hP hD (ci := 1) (q0 := 2 * j + 4) rfl (gsN_row hj)) rfl rfl hl.1 rfl (lv_room (Nat.le_of_ble_eq_true rfl)) dX2_open_26 ⟨Nat.zero_le _, Nat.zero_le _⟩) hD hS hA (fun r26 w H locs hw hP hD hS => ?_)
        obtain ⟨rfl, e26⟩ := hw
        refine lv_if_eq (tgt := 35) hx hb dX2_open_29 (by decide) (fun c29 => ?_) (fun c29 => ?_)
        · refine lv_aload_n hx hb dX2_open_35 rfl (lv_at hl 0 rfl) ?_
          refine va_get (C := RX2) (T := TX2) (N := 8) (ci := 2) hx hb hts hi_X2 hown hK hP (0) (rfl) rfl 0 (by decide) (hts (.fieldLink RX2 11 "GroupSeats" "rows" "[LGroupSeats$Row;") (by decide +kernel)) (fun _ h9 => h9) rfl dX2_open_36 ?_
          refine lv_iload_n hx hb dX2_open_39 rfl (lv_at hl 1 rfl) ?_
          refine g_aldq hx hb hK hP (1) 2 (rfl) rfl (vp_in_nI hj (by decide)) (gRf_at hj (by decide)) dX2_open_40 ?_
          refine lv_iload_n hx hb dX2_open_41 rfl (lv_at hl 2 rfl) ?_
          refine g_callv (va_runV (As := [.int _]) (rest := []) ⟨hx, hb, hml, hown, hts⟩ (c_begin l D K _ (ra j) (oa j) (2 * j + 4) (2 * j + 1 + 4) 0 0 0 0 n (fun _ => 0) _ (by omega) (gsN_row hj) (gsN_own hj)) (cwV 1 hts gX2_open_X1_begin rfl rfl rfl (by decide +kernel) ⟨(Nat.le_of_ble_eq_true rfl), (Nat.le_of_ble_eq_true rfl)⟩) (g_preV hK hP hD (ci := 1) (q0 := 2 * j + 4) rfl (gsN_row hj)) rfl rfl hl.1 rfl (lv_room (Nat.le_of_ble_eq_true rfl)) dX2_open_42 ⟨Nat.zero_le _, Nat.zero_le _⟩) hD hS hA (fun w H locs hw hP hD hS => ?_)
          subst hw
          refine lv_aload_n hx hb dX2_open_45 rfl (lv_at hl 0 rfl) ?_
          refine g_calli (va_runV (As := []) (rest := []) ⟨hx, hb, hml, hown, hts⟩ (c_try0 l D K _ h0 ar ac aq (pa 0) 0 0 0 _ (g_setne (by omega) (g_setne (by omega) rfl))) (cwV 0 hts gX2_open_X2_tryThoseWaiting rfl rfl rfl (by decide +kernel) ⟨(Nat.le_of_ble_eq_true rfl), (Nat.le_of_ble_eq_true rfl)⟩) (g_preV hK hP hD (ci := 2) (q0 := 0) rfl (g_setne (by omega) (g_setne (by omega) rfl))) rfl rfl hl.1 rfl (lv_room (Nat.le_of_ble_eq_true rfl)) dX2_open_46 ⟨Nat.zero_le _, Nat.zero_le _⟩) hD hS hA (fun r46 w H locs hw hP hD hS => ?_)
          subst hw
          exact g_iret hx hb hr hlocks (Nat.le_of_ble_eq_true rfl) (Nat.le_of_ble_eq_true rfl) hK hP hD hS dX2_open_49 (by unfold eOpen; split <;> rename_i h <;> first | rfl | decide | (exfalso; simp only [Int32.le_iff_toInt_le, Int32.lt_iff_toInt_lt, gl_m1, gl_0, gl_1, gl_2, gl_3, gl_5, gl_6, gl_8, gl_9, gl_10, gl_11, gl_20, gl_40, gl_60] at h c4 c9 c15 c29; omega))
        · exact absurd (e26.mpr (by decide)) c29
      · refine lv_iconst (v := -1) hx hb dX2_open_18 (by decide) ?_
        exact g_iret hx hb hr hlocks (Nat.le_of_ble_eq_true rfl) (Nat.le_of_ble_eq_true rfl) hK hP hD hS dX2_open_19 (by unfold eOpen; split <;> rename_i h <;> first | rfl | decide | (exfalso; simp only [Int32.le_iff_toInt_le, Int32.lt_iff_toInt_lt, gl_m1, gl_0, gl_1, gl_2, gl_3, gl_5, gl_6, gl_8, gl_9, gl_10, gl_11, gl_20, gl_40, gl_60] at h c4 c9 c15; omega))
set_option maxHeartbeats 4000000 in
set_option maxRecDepth 100000 in
/-- shut on a new hall -/
theorem c_shut (l : Launch) (D : va_G) (K : gCl) (h0 ar ac aq : Nat) (ra oa pa na : Nat → Nat) (x : Int32) (sz : Nat)  : gMi l yX2_shut wsX2_shut ({ frames := 3, cells := 0, slots := 0, locals := 120 } : Room) D vwCl (gT K) [.ref h0, .int x] (gsN K h0 ar ac aq ra oa pa na) sz (fun r _ => r = eShut x) 0 0 := by
  refine g_of (cc := cX2_shut) (maxL := 4) (ret := (some .int)) (Qc := fun A => va_Qi (fun r _ => r = eShut x) (gB D vwCl (gT K) A) A) (by decide) rfl (Nat.le_of_ble_eq_true rfl) ?_
  intro p e s m below meth c A ls I hl
  have I0 := I
  obtain ⟨hx, hb, hr, hml, hown, hts, hlocks, hnm, hA, hK, hP, hD, hS⟩ := I
  have hown : s.vm.findClass RX2 = some m.cls := hown
  have hl : lv_has ls 4 [(0, .ref h0), (1, .int x)] := hl
  have hi_X2 : ∀ w ∈ u_ws RX2 TX2 8, w ∈ wsX2_shut := by decide +kernel
  have hi_X1 : ∀ w ∈ u_ws RX1 TX1 5, w ∈ wsX2_shut := by decide +kernel
  refine lv_iload_n hx hb dX2_shut_0 rfl (lv_at hl 1 rfl) ?_
  refine g_calli (va_runS (As := [.int _]) (rest := []) ⟨hx, hb, hml, hown, hts⟩ (c_isRow l D K _ x _) (va_cwS 1 hts gX2_shut_X2_isRow rfl rfl rfl (by decide +kernel) ⟨(Nat.le_of_ble_eq_true rfl), (Nat.le_of_ble_eq_true rfl)⟩) (g_preS hK hP hD) rfl rfl hl.1 rfl (lv_room (Nat.le_of_ble_eq_true rfl)) dX2_shut_1 ⟨Nat.zero_le _, Nat.zero_le _⟩) hD hS hA (fun r1 w H locs hw hP hD hS => ?_)
  obtain ⟨rfl, e1⟩ := hw
  refine lv_if_ne (tgt := 9) hx hb dX2_shut_4 (by decide) (fun c4 => ?_) (fun c4 => ?_)
  · simp only [e1, Classical.not_not] at c4
    obtain ⟨j, hj, rfl⟩ := g_ix (n := 10) rfl c4
    refine lv_aload_n hx hb dX2_shut_9 rfl (lv_at hl 0 rfl) ?_
    refine va_get (C := RX2) (T := TX2) (N := 8) (ci := 2) hx hb hts hi_X2 hown hK hP (0) (rfl) rfl 0 (by decide) (hts (.fieldLink RX2 11 "GroupSeats" "rows" "[LGroupSeats$Row;") (by decide +kernel)) (fun _ h9 => h9) rfl dX2_shut_10 ?_
    refine lv_iload_n hx hb dX2_shut_13 rfl (lv_at hl 1 rfl) ?_
    refine g_aldq hx hb hK hP (1) 2 (rfl) rfl (vp_in_nI hj (by decide)) (gRf_at hj (by decide)) dX2_shut_14 ?_
    refine lv_astore_n (lv' := [(2, .ref _), (0, .ref _), (1, .int _)]) hx hb dX2_shut_15 rfl hl (by decide) rfl (fun ls hl => ?_)
    refine lv_aload_n hx hb dX2_shut_16 rfl (lv_at hl 0 rfl) ?_
    refine g_calli (va_runV (As := []) (rest := []) ⟨hx, hb, hml, hown, hts⟩ (c_isOpen l D K _ (ra j) (oa j) (2 * j + 4) 0 0 0 0 _ (gsN_row hj)) (cwV 0 hts gX2_shut_X1_isOpen rfl rfl rfl (by decide +kernel) ⟨(Nat.le_of_ble_eq_true rfl), (Nat.le_of_ble_eq_true rfl)⟩) (g_preV hK hP hD (ci := 1) (q0 := 2 * j + 4) rfl (gsN_row hj)) rfl rfl hl.1 rfl (lv_room (Nat.le_of_ble_eq_true rfl)) dX2_shut_17 ⟨Nat.zero_le _, Nat.zero_le _⟩) hD hS hA (fun r17 w H locs hw hP hD hS => ?_)
    obtain ⟨rfl, e17⟩ := hw
    refine lv_if_eq (tgt := 36) hx hb dX2_shut_20 (by decide) (fun c20 => ?_) (fun c20 => ?_)
    · refine lv_bipush (v := -2) hx hb dX2_shut_36 (by decide) ?_
      exact g_iret hx hb hr hlocks (Nat.le_of_ble_eq_true rfl) (Nat.le_of_ble_eq_true rfl) hK hP hD hS dX2_shut_38 (by unfold eShut; split <;> rename_i h <;> first | rfl | decide | (exfalso; simp only [Int32.le_iff_toInt_le, Int32.lt_iff_toInt_lt, gl_m1, gl_0, gl_1, gl_2, gl_3, gl_5, gl_6, gl_8, gl_9, gl_10, gl_11, gl_20, gl_40, gl_60] at h c4 c20; omega))
    · exact absurd (e17.mpr (by decide)) c20
  · simp only [e1, Classical.not_not] at c4
    refine lv_iconst (v := -1) hx hb dX2_shut_7 (by decide) ?_
    exact g_iret hx hb hr hlocks (Nat.le_of_ble_eq_true rfl) (Nat.le_of_ble_eq_true rfl) hK hP hD hS dX2_shut_8 (by unfold eShut; split <;> rename_i h <;> first | rfl | decide | (exfalso; simp only [Int32.le_iff_toInt_le, Int32.lt_iff_toInt_lt, gl_m1, gl_0, gl_1, gl_2, gl_3, gl_5, gl_6, gl_8, gl_9, gl_10, gl_11, gl_20, gl_40, gl_60] at h c4; omega))
set_option maxHeartbeats 4000000 in
set_option maxRecDepth 100000 in
/-- strict on a new hall -/
theorem c_strict (l : Launch) (D : va_G) (K : gCl) (h0 ar ac aq : Nat) (ra oa pa na : Nat → Nat) (x on : Int32) (sz : Nat)  : gMi l yX2_strict wsX2_strict ({ frames := 3, cells := 0, slots := 0, locals := 120 } : Room) D vwCl (gT K) [.ref h0, .int x, .int on] (gsN K h0 ar ac aq ra oa pa na) sz (fun r _ => r = eShut x) 0 0 := by
  refine g_of (cc := cX2_strict) (maxL := 4) (ret := (some .int)) (Qc := fun A => va_Qi (fun r _ => r = eShut x) (gB D vwCl (gT K) A) A) (by decide) rfl (Nat.le_of_ble_eq_true rfl) ?_
  intro p e s m below meth c A ls I hl
  have I0 := I
  obtain ⟨hx, hb, hr, hml, hown, hts, hlocks, hnm, hA, hK, hP, hD, hS⟩ := I
  have hown : s.vm.findClass RX2 = some m.cls := hown
  have hl : lv_has ls 4 [(0, .ref h0), (1, .int x), (2, .int on)] := hl
  have hi_X2 : ∀ w ∈ u_ws RX2 TX2 8, w ∈ wsX2_strict := by decide +kernel
  have hi_X1 : ∀ w ∈ u_ws RX1 TX1 5, w ∈ wsX2_strict := by decide +kernel
  refine lv_iload_n hx hb dX2_strict_0 rfl (lv_at hl 1 rfl) ?_
  refine g_calli (va_runS (As := [.int _]) (rest := []) ⟨hx, hb, hml, hown, hts⟩ (c_isRow l D K _ x _) (va_cwS 1 hts gX2_strict_X2_isRow rfl rfl rfl (by decide +kernel) ⟨(Nat.le_of_ble_eq_true rfl), (Nat.le_of_ble_eq_true rfl)⟩) (g_preS hK hP hD) rfl rfl hl.1 rfl (lv_room (Nat.le_of_ble_eq_true rfl)) dX2_strict_1 ⟨Nat.zero_le _, Nat.zero_le _⟩) hD hS hA (fun r1 w H locs hw hP hD hS => ?_)
  obtain ⟨rfl, e1⟩ := hw
  refine lv_if_ne (tgt := 9) hx hb dX2_strict_4 (by decide) (fun c4 => ?_) (fun c4 => ?_)
  · simp only [e1, Classical.not_not] at c4
    obtain ⟨j, hj, rfl⟩ := g_ix (n := 10) rfl c4
    refine lv_aload_n hx hb dX2_strict_9 rfl (lv_at hl 0 rfl) ?_
    refine va_get (C := RX2) (T := TX2) (N := 8) (ci := 2) hx hb hts hi_X2 hown hK hP (0) (rfl) rfl 0 (by decide) (hts (.fieldLink RX2 11 "GroupSeats" "rows" "[LGroupSeats$Row;") (by decide +kernel)) (fun _ h9 => h9) rfl dX2_strict_10 ?_
    refine lv_iload_n hx hb dX2_strict_13 rfl (lv_at hl 1 rfl) ?_
    refine g_aldq hx hb hK hP (1) 2 (rfl) rfl (vp_in_nI hj (by decide)) (gRf_at hj (by decide)) dX2_strict_14 ?_
    refine g_calli (va_runV (As := []) (rest := []) ⟨hx, hb, hml, hown, hts⟩ (c_isOpen l D K _ (ra j) (oa j) (2 * j + 4) 0 0 0 0 _ (gsN_row hj)) (cwV 0 hts gX2_strict_X1_isOpen rfl rfl rfl (by decide +kernel) ⟨(Nat.le_of_ble_eq_true rfl), (Nat.le_of_ble_eq_true rfl)⟩) (g_preV hK hP hD (ci := 1) (q0 := 2 * j + 4) rfl (gsN_row hj)) rfl rfl hl.1 rfl (lv_room (Nat.le_of_ble_eq_true rfl)) dX2_strict_15 ⟨Nat.zero_le _, Nat.zero_le _⟩) hD hS hA (fun r15 w H locs hw hP hD hS => ?_)
    obtain ⟨rfl, e15⟩ := hw
    refine lv_if_ne (tgt := 24) hx hb dX2_strict_18 (by decide) (fun c18 => ?_) (fun c18 => ?_)
    · exact absurd (e15.mpr (by decide)) c18
    · refine lv_bipush (v := -2) hx hb dX2_strict_21 (by decide) ?_
      exact g_iret hx hb hr hlocks (Nat.le_of_ble_eq_true rfl) (Nat.le_of_ble_eq_true rfl) hK hP hD hS dX2_strict_23 (by unfold eShut; split <;> rename_i h <;> first | rfl | decide | (exfalso; simp only [Int32.le_iff_toInt_le, Int32.lt_iff_toInt_lt, gl_m1, gl_0, gl_1, gl_2, gl_3, gl_5, gl_6, gl_8, gl_9, gl_10, gl_11, gl_20, gl_40, gl_60] at h c4 c18; omega))
  · simp only [e1, Classical.not_not] at c4
    refine lv_iconst (v := -1) hx hb dX2_strict_7 (by decide) ?_
    exact g_iret hx hb hr hlocks (Nat.le_of_ble_eq_true rfl) (Nat.le_of_ble_eq_true rfl) hK hP hD hS dX2_strict_8 (by unfold eShut; split <;> rename_i h <;> first | rfl | decide | (exfalso; simp only [Int32.le_iff_toInt_le, Int32.lt_iff_toInt_lt, gl_m1, gl_0, gl_1, gl_2, gl_3, gl_5, gl_6, gl_8, gl_9, gl_10, gl_11, gl_20, gl_40, gl_60] at h c4; omega))
set_option maxHeartbeats 4000000 in
set_option maxRecDepth 100000 in
/-- list on a new hall -/
theorem c_list (l : Launch) (D : va_G) (K : gCl) (h0 ar ac aq : Nat) (ra oa pa na : Nat → Nat) (x : Int32) (sz : Nat)  : gMi l yX2_list wsX2_list ({ frames := 0, cells := 0, slots := 0, locals := 0 } : Room) D vwCl (gT K) [.ref h0, .int x] (gsN K h0 ar ac aq ra oa pa na) sz (fun r _ => r = eList x) 0 0 := by
  refine g_of (cc := cX2_list) (maxL := 2) (ret := (some .int)) (Qc := fun A => va_Qi (fun r _ => r = eList x) (gB D vwCl (gT K) A) A) (by decide) rfl (Nat.le_of_ble_eq_true rfl) ?_
  intro p e s m below meth c A ls I hl
  have I0 := I
  obtain ⟨hx, hb, hr, hml, hown, hts, hlocks, hnm, hA, hK, hP, hD, hS⟩ := I
  have hown : s.vm.findClass RX2 = some m.cls := hown
  have hl : lv_has ls 2 [(0, .ref h0), (1, .int x)] := hl
  have hi_X2 : ∀ w ∈ u_ws RX2 TX2 8, w ∈ wsX2_list := by decide +kernel
  have hi_X0 : ∀ w ∈ u_ws RX0 TX0 4, w ∈ wsX2_list := by decide +kernel
  refine lv_iload_n hx hb dX2_list_0 rfl (lv_at hl 1 rfl) ?_
  refine lv_if_lt (tgt := 10) hx hb dX2_list_1 (by decide) (fun c1 => ?_) (fun c1 => ?_)
  · refine lv_iconst (v := -1) hx hb dX2_list_10 (by decide) ?_
    exact g_iret hx hb hr hlocks (Nat.le_of_ble_eq_true rfl) (Nat.le_of_ble_eq_true rfl) hK hP hD hS dX2_list_11 (by unfold eList; split <;> rename_i h <;> first | rfl | decide | (exfalso; simp only [Int32.le_iff_toInt_le, Int32.lt_iff_toInt_lt, gl_m1, gl_0, gl_1, gl_2, gl_3, gl_5, gl_6, gl_8, gl_9, gl_10, gl_11, gl_20, gl_40, gl_60] at h c1; omega))
  · refine lv_iload_n hx hb dX2_list_4 rfl (lv_at hl 1 rfl) ?_
    refine lv_bipush (v := 11) hx hb dX2_list_5 (by decide) ?_
    refine lv_icmp_le (tgt := 12) hx hb dX2_list_7 (by decide) (fun c7 => ?_) (fun c7 => ?_)
    · refine lv_aload_n hx hb dX2_list_12 rfl (lv_at hl 0 rfl) ?_
      refine va_get (C := RX2) (T := TX2) (N := 8) (ci := 2) hx hb hts hi_X2 hown hK hP (0) (rfl) rfl 3 (by decide) (hts (.fieldLink RX2 26 "GroupSeats" "coming" "LGroupSeats$Party;") (by decide +kernel)) (fun _ h9 => h9) rfl dX2_list_13 ?_
      refine va_get (C := RX0) (T := TX0) (N := 4) (ci := 0) hx hb hts hi_X0 hown hK hP (24) (gsN_par0) rfl 1 (by decide) (hts (.fieldLink RX2 59 "GroupSeats$Party" "listed" "I") (by decide +kernel)) (fun _ h9 => h9) rfl dX2_list_16 ?_
      refine lv_bipush (v := 6) hx hb dX2_list_19 (by decide) ?_
      refine lv_icmp_lt (tgt := 27) hx hb dX2_list_21 (by decide) (fun c21 => ?_) (fun c21 => ?_)
      · refine lv_aload_n hx hb dX2_list_27 rfl (lv_at hl 0 rfl) ?_
        refine va_get (C := RX2) (T := TX2) (N := 8) (ci := 2) hx hb hts hi_X2 hown hK hP (0) (rfl) rfl 3 (by decide) (hts (.fieldLink RX2 26 "GroupSeats" "coming" "LGroupSeats$Party;") (by decide +kernel)) (fun _ h9 => h9) rfl dX2_list_28 ?_
        refine va_get (C := RX0) (T := TX0) (N := 4) (ci := 0) hx hb hts hi_X0 hown hK hP (24) (gsN_par0) rfl 0 (by decide) (hts (.fieldLink RX2 62 "GroupSeats$Party" "numbers" "[I") (by decide +kernel)) (fun _ h9 => h9) rfl dX2_list_31 ?_
        refine lv_aload_n hx hb dX2_list_34 rfl (lv_at hl 0 rfl) ?_
        refine va_get (C := RX2) (T := TX2) (N := 8) (ci := 2) hx hb hts hi_X2 hown hK hP (0) (rfl) rfl 3 (by decide) (hts (.fieldLink RX2 26 "GroupSeats" "coming" "LGroupSeats$Party;") (by decide +kernel)) (fun _ h9 => h9) rfl dX2_list_35 ?_
        refine va_get (C := RX0) (T := TX0) (N := 4) (ci := 0) hx hb hts hi_X0 hown hK hP (24) (gsN_par0) rfl 1 (by decide) (hts (.fieldLink RX2 59 "GroupSeats$Party" "listed" "I") (by decide +kernel)) (fun _ h9 => h9) rfl dX2_list_38 ?_
        refine lv_iload_n hx hb dX2_list_41 rfl (lv_at hl 1 rfl) ?_
        refine va_iast hx hb hK hP hD hS (25) 0 (gsN_num0) rfl (g_in0_6) dX2_list_42 (fun H locs hP hD hS => ?_)
        refine lv_aload_n hx hb dX2_list_43 rfl (lv_at hl 0 rfl) ?_
        refine va_get (C := RX2) (T := TX2) (N := 8) (ci := 2) hx hb hts hi_X2 hown hK hP (0) (g_setne (by decide) rfl) rfl 3 (by decide) (hts (.fieldLink RX2 26 "GroupSeats" "coming" "LGroupSeats$Party;") (by decide +kernel)) (fun _ h9 => h9) rfl dX2_list_44 ?_
        refine lv_dup hx hb dX2_list_47 rfl ?_
        refine va_get (C := RX0) (T := TX0) (N := 4) (ci := 0) hx hb hts hi_X0 hown hK hP (24) (g_setne (by decide) gsN_par0) rfl 1 (by decide) (hts (.fieldLink RX2 59 "GroupSeats$Party" "listed" "I") (by decide +kernel)) (fun _ h9 => h9) rfl dX2_list_48 ?_
        refine lv_iconst (v := 1) hx hb dX2_list_51 (by decide) ?_
        refine lv_iadd hx hb dX2_list_52 ?_
        refine va_put (C := RX0) (T := TX0) (N := 4) (ci := 0) (ty := .int) hx hb hts hi_X0 tyX0 tyX0_ok nmX0 hown hK hP hD hS (24) (g_setne (by decide) gsN_par0) rfl 1 (by decide) (hts (.fieldLink RX2 59 "GroupSeats$Party" "listed" "I") (by decide +kernel)) (fun _ h9 => h9) rfl (by decide +kernel) rfl rfl (Nat.le_of_ble_eq_true rfl) dX2_list_53 (fun H locs hP hD hS => ?_)
        refine lv_aload_n hx hb dX2_list_56 rfl (lv_at hl 0 rfl) ?_
        refine va_get (C := RX2) (T := TX2) (N := 8) (ci := 2) hx hb hts hi_X2 hown hK hP (0) (g_setne (by decide) (g_setne (by decide) rfl)) rfl 3 (by decide) (hts (.fieldLink RX2 26 "GroupSeats" "coming" "LGroupSeats$Party;") (by decide +kernel)) (fun _ h9 => h9) rfl dX2_list_57 ?_
        refine va_get (C := RX0) (T := TX0) (N := 4) (ci := 0) hx hb hts hi_X0 hown hK hP (24) (g_setself (g_setne (by decide) gsN_par0)) rfl 1 (by decide) (hts (.fieldLink RX2 59 "GroupSeats$Party" "listed" "I") (by decide +kernel)) (fun _ h9 => h9) rfl dX2_list_60 ?_
        exact g_iret hx hb hr hlocks (Nat.le_of_ble_eq_true rfl) (Nat.le_of_ble_eq_true rfl) hK hP hD hS dX2_list_63 (by unfold eList; split <;> rename_i h <;> first | rfl | decide | (exfalso; simp only [Int32.le_iff_toInt_le, Int32.lt_iff_toInt_lt, gl_m1, gl_0, gl_1, gl_2, gl_3, gl_5, gl_6, gl_8, gl_9, gl_10, gl_11, gl_20, gl_40, gl_60] at h c1 c7 c21; omega))
      · exact absurd (by decide) c21
    · refine lv_iconst (v := -1) hx hb dX2_list_10 (by decide) ?_
      exact g_iret hx hb hr hlocks (Nat.le_of_ble_eq_true rfl) (Nat.le_of_ble_eq_true rfl) hK hP hD hS dX2_list_11 (by unfold eList; split <;> rename_i h <;> first | rfl | decide | (exfalso; simp only [Int32.le_iff_toInt_le, Int32.lt_iff_toInt_lt, gl_m1, gl_0, gl_1, gl_2, gl_3, gl_5, gl_6, gl_8, gl_9, gl_10, gl_11, gl_20, gl_40, gl_60] at h c1 c7; omega))
set_option maxHeartbeats 4000000 in
set_option maxRecDepth 100000 in
/-- book on a new hall -/
theorem c_book (l : Launch) (D : va_G) (K : gCl) (h0 ar ac aq : Nat) (ra oa pa na : Nat → Nat) (n mo : Int32) (sz : Nat)  : gMi l yX2_book wsX2_book ({ frames := 3, cells := 0, slots := 0, locals := 120 } : Room) D vwCl (gT K) [.ref h0, .int n, .int mo] (gsN K h0 ar ac aq ra oa pa na) sz (fun r _ => r = eBook n mo) 0 0 := by
  refine g_of (cc := cX2_book) (maxL := 4) (ret := (some .int)) (Qc := fun A => va_Qi (fun r _ => r = eBook n mo) (gB D vwCl (gT K) A) A) (by decide) rfl (Nat.le_of_ble_eq_true rfl) ?_
  intro p e s m below meth c A ls I hl
  have I0 := I
  obtain ⟨hx, hb, hr, hml, hown, hts, hlocks, hnm, hA, hK, hP, hD, hS⟩ := I
  have hown : s.vm.findClass RX2 = some m.cls := hown
  have hl : lv_has ls 4 [(0, .ref h0), (1, .int n), (2, .int mo)] := hl
  have hi_X2 : ∀ w ∈ u_ws RX2 TX2 8, w ∈ wsX2_book := by decide +kernel
  have hi_X0 : ∀ w ∈ u_ws RX0 TX0 4, w ∈ wsX2_book := by decide +kernel
  refine lv_iload_n hx hb dX2_book_0 rfl (lv_at hl 1 rfl) ?_
  refine lv_iconst (v := 1) hx hb dX2_book_1 (by decide) ?_
  refine lv_icmp_lt (tgt := 20) hx hb dX2_book_2 (by decide) (fun c2 => ?_) (fun c2 => ?_)
  · refine lv_iconst (v := -1) hx hb dX2_book_20 (by decide) ?_
    exact g_iret hx hb hr hlocks (Nat.le_of_ble_eq_true rfl) (Nat.le_of_ble_eq_true rfl) hK hP hD hS dX2_book_21 (by unfold eBook; split <;> rename_i h <;> first | rfl | decide | (exfalso; simp only [Int32.le_iff_toInt_le, Int32.lt_iff_toInt_lt, gl_m1, gl_0, gl_1, gl_2, gl_3, gl_5, gl_6, gl_8, gl_9, gl_10, gl_11, gl_20, gl_40, gl_60] at h c2; omega))
  · refine lv_iload_n hx hb dX2_book_5 rfl (lv_at hl 1 rfl) ?_
    refine lv_bipush (v := 60) hx hb dX2_book_6 (by decide) ?_
    refine lv_icmp_gt (tgt := 20) hx hb dX2_book_8 (by decide) (fun c8 => ?_) (fun c8 => ?_)
    · refine lv_iconst (v := -1) hx hb dX2_book_20 (by decide) ?_
      exact g_iret hx hb hr hlocks (Nat.le_of_ble_eq_true rfl) (Nat.le_of_ble_eq_true rfl) hK hP hD hS dX2_book_21 (by unfold eBook; split <;> rename_i h <;> first | rfl | decide | (exfalso; simp only [Int32.le_iff_toInt_le, Int32.lt_iff_toInt_lt, gl_m1, gl_0, gl_1, gl_2, gl_3, gl_5, gl_6, gl_8, gl_9, gl_10, gl_11, gl_20, gl_40, gl_60] at h c2 c8; omega))
    · refine lv_iload_n hx hb dX2_book_11 rfl (lv_at hl 2 rfl) ?_
      refine lv_if_lt (tgt := 20) hx hb dX2_book_12 (by decide) (fun c12 => ?_) (fun c12 => ?_)
      · refine lv_iconst (v := -1) hx hb dX2_book_20 (by decide) ?_
        exact g_iret hx hb hr hlocks (Nat.le_of_ble_eq_true rfl) (Nat.le_of_ble_eq_true rfl) hK hP hD hS dX2_book_21 (by unfold eBook; split <;> rename_i h <;> first | rfl | decide | (exfalso; simp only [Int32.le_iff_toInt_le, Int32.lt_iff_toInt_lt, gl_m1, gl_0, gl_1, gl_2, gl_3, gl_5, gl_6, gl_8, gl_9, gl_10, gl_11, gl_20, gl_40, gl_60] at h c2 c8 c12; omega))
      · refine lv_iload_n hx hb dX2_book_15 rfl (lv_at hl 2 rfl) ?_
        refine lv_iconst (v := 2) hx hb dX2_book_16 (by decide) ?_
        refine lv_icmp_le (tgt := 22) hx hb dX2_book_17 (by decide) (fun c17 => ?_) (fun c17 => ?_)
        · refine lv_aload_n hx hb dX2_book_22 rfl (lv_at hl 0 rfl) ?_
          refine va_get (C := RX2) (T := TX2) (N := 8) (ci := 2) hx hb hts hi_X2 hown hK hP (0) (rfl) rfl 3 (by decide) (hts (.fieldLink RX2 26 "GroupSeats" "coming" "LGroupSeats$Party;") (by decide +kernel)) (fun _ h9 => h9) rfl dX2_book_23 ?_
          refine va_get (C := RX0) (T := TX0) (N := 4) (ci := 0) hx hb hts hi_X0 hown hK hP (24) (gsN_par0) rfl 1 (by decide) (hts (.fieldLink RX2 59 "GroupSeats$Party" "listed" "I") (by decide +kernel)) (fun _ h9 => h9) rfl dX2_book_26 ?_
          refine lv_if_ne (tgt := 35) hx hb dX2_book_29 (by decide) (fun c29 => ?_) (fun c29 => ?_)
          · exact absurd rfl c29
          · refine lv_bipush (v := -2) hx hb dX2_book_32 (by decide) ?_
            exact g_iret hx hb hr hlocks (Nat.le_of_ble_eq_true rfl) (Nat.le_of_ble_eq_true rfl) hK hP hD hS dX2_book_34 (by unfold eBook; split <;> rename_i h <;> first | rfl | decide | (exfalso; simp only [Int32.le_iff_toInt_le, Int32.lt_iff_toInt_lt, gl_m1, gl_0, gl_1, gl_2, gl_3, gl_5, gl_6, gl_8, gl_9, gl_10, gl_11, gl_20, gl_40, gl_60] at h c2 c8 c12 c17 c29; omega))
        · refine lv_iconst (v := -1) hx hb dX2_book_20 (by decide) ?_
          exact g_iret hx hb hr hlocks (Nat.le_of_ble_eq_true rfl) (Nat.le_of_ble_eq_true rfl) hK hP hD hS dX2_book_21 (by unfold eBook; split <;> rename_i h <;> first | rfl | decide | (exfalso; simp only [Int32.le_iff_toInt_le, Int32.lt_iff_toInt_lt, gl_m1, gl_0, gl_1, gl_2, gl_3, gl_5, gl_6, gl_8, gl_9, gl_10, gl_11, gl_20, gl_40, gl_60] at h c2 c8 c12 c17; omega))
set_option maxHeartbeats 4000000 in
set_option maxRecDepth 100000 in
/-- cancel on a new hall -/
theorem c_cancel (l : Launch) (D : va_G) (K : gCl) (h0 ar ac aq : Nat) (ra oa pa na : Nat → Nat) (x : Int32) (sz : Nat)  : gMi l yX2_cancel wsX2_cancel ({ frames := 3, cells := 0, slots := 0, locals := 120 } : Room) D vwCl (gT K) [.ref h0, .int x] (gsN K h0 ar ac aq ra oa pa na) sz (fun r _ => r = -1) 0 0 := by
  refine g_of (cc := cX2_cancel) (maxL := 3) (ret := (some .int)) (Qc := fun A => va_Qi (fun r _ => r = -1) (gB D vwCl (gT K) A) A) (by decide) rfl (Nat.le_of_ble_eq_true rfl) ?_
  intro p e s m below meth c A ls I hl
  have I0 := I
  obtain ⟨hx, hb, hr, hml, hown, hts, hlocks, hnm, hA, hK, hP, hD, hS⟩ := I
  have hown : s.vm.findClass RX2 = some m.cls := hown
  have hl : lv_has ls 3 [(0, .ref h0), (1, .int x)] := hl
  have hi_X2 : ∀ w ∈ u_ws RX2 TX2 8, w ∈ wsX2_cancel := by decide +kernel
  have hi_X1 : ∀ w ∈ u_ws RX1 TX1 5, w ∈ wsX2_cancel := by decide +kernel
  refine lv_aload_n hx hb dX2_cancel_0 rfl (lv_at hl 0 rfl) ?_
  refine lv_iload_n hx hb dX2_cancel_1 rfl (lv_at hl 1 rfl) ?_
  refine g_calli (va_runV (As := [.int _]) (rest := []) ⟨hx, hb, hml, hown, hts⟩ (c_isBooking l D K _ h0 ar ac aq (pa 0) 0 0 0 0 x _ rfl) (cwV 1 hts gX2_cancel_X2_isBooking rfl rfl rfl (by decide +kernel) ⟨(Nat.le_of_ble_eq_true rfl), (Nat.le_of_ble_eq_true rfl)⟩) (g_preV hK hP hD (ci := 2) (q0 := 0) rfl (rfl)) rfl rfl hl.1 rfl (lv_room (Nat.le_of_ble_eq_true rfl)) dX2_cancel_2 ⟨Nat.zero_le _, Nat.zero_le _⟩) hD hS hA (fun r2 w H locs hw hP hD hS => ?_)
  obtain ⟨rfl, e2⟩ := hw
  refine lv_if_ne (tgt := 10) hx hb dX2_cancel_5 (by decide) (fun c5 => ?_) (fun c5 => ?_)
  · exact absurd (e2.mpr (fun h => by simp only [Int32.le_iff_toInt_le, Int32.lt_iff_toInt_lt, gl_m1, gl_0, gl_1, gl_2, gl_3, gl_5, gl_6, gl_8, gl_9, gl_10, gl_11, gl_20, gl_40, gl_60] at h; omega)) c5
  · refine lv_iconst (v := -1) hx hb dX2_cancel_8 (by decide) ?_
    exact g_iret hx hb hr hlocks (Nat.le_of_ble_eq_true rfl) (Nat.le_of_ble_eq_true rfl) hK hP hD hS dX2_cancel_9 (rfl)
set_option maxHeartbeats 4000000 in
set_option maxRecDepth 100000 in
/-- leave on a new hall -/
theorem c_leave (l : Launch) (D : va_G) (K : gCl) (h0 ar ac aq : Nat) (ra oa pa na : Nat → Nat) (x : Int32) (sz : Nat)  : gMi l yX2_leave wsX2_leave ({ frames := 3, cells := 0, slots := 0, locals := 120 } : Room) D vwCl (gT K) [.ref h0, .int x] (gsN K h0 ar ac aq ra oa pa na) sz (fun r _ => r = -1) 0 0 := by
  refine g_of (cc := cX2_leave) (maxL := 4) (ret := (some .int)) (Qc := fun A => va_Qi (fun r _ => r = -1) (gB D vwCl (gT K) A) A) (by decide) rfl (Nat.le_of_ble_eq_true rfl) ?_
  intro p e s m below meth c A ls I hl
  have I0 := I
  obtain ⟨hx, hb, hr, hml, hown, hts, hlocks, hnm, hA, hK, hP, hD, hS⟩ := I
  have hown : s.vm.findClass RX2 = some m.cls := hown
  have hl : lv_has ls 4 [(0, .ref h0), (1, .int x)] := hl
  have hi_X2 : ∀ w ∈ u_ws RX2 TX2 8, w ∈ wsX2_leave := by decide +kernel
  refine lv_aload_n hx hb dX2_leave_0 rfl (lv_at hl 0 rfl) ?_
  refine lv_iload_n hx hb dX2_leave_1 rfl (lv_at hl 1 rfl) ?_
  refine g_calli (va_runV (As := [.int _]) (rest := []) ⟨hx, hb, hml, hown, hts⟩ (c_isWaiting l D K _ h0 ar ac aq (pa 0) 0 0 0 0 x _ rfl) (cwV 1 hts gX2_leave_X2_isWaiting rfl rfl rfl (by decide +kernel) ⟨(Nat.le_of_ble_eq_true rfl), (Nat.le_of_ble_eq_true rfl)⟩) (g_preV hK hP hD (ci := 2) (q0 := 0) rfl (rfl)) rfl rfl hl.1 rfl (lv_room (Nat.le_of_ble_eq_true rfl)) dX2_leave_2 ⟨Nat.zero_le _, Nat.zero_le _⟩) hD hS hA (fun r2 w H locs hw hP hD hS => ?_)
  obtain ⟨rfl, e2⟩ := hw
  refine lv_if_ne (tgt := 10) hx hb dX2_leave_5 (by decide) (fun c5 => ?_) (fun c5 => ?_)
  · exact absurd (e2.mpr (fun h => by simp only [Int32.le_iff_toInt_le, Int32.lt_iff_toInt_lt, gl_m1, gl_0, gl_1, gl_2, gl_3, gl_5, gl_6, gl_8, gl_9, gl_10, gl_11, gl_20, gl_40, gl_60] at h; omega)) c5
  · refine lv_iconst (v := -1) hx hb dX2_leave_8 (by decide) ?_
    exact g_iret hx hb hr hlocks (Nat.le_of_ble_eq_true rfl) (Nat.le_of_ble_eq_true rfl) hK hP hD hS dX2_leave_9 (rfl)
set_option maxHeartbeats 4000000 in
set_option maxRecDepth 100000 in
/-- has on a new hall -/
theorem c_has (l : Launch) (D : va_G) (K : gCl) (h0 ar ac aq : Nat) (ra oa pa na : Nat → Nat) (x y : Int32) (sz : Nat)  : gMi l yX2_has wsX2_has ({ frames := 3, cells := 0, slots := 0, locals := 120 } : Room) D vwCl (gT K) [.ref h0, .int x, .int y] (gsN K h0 ar ac aq ra oa pa na) sz (fun r _ => r = -1) 0 0 := by
  refine g_of (cc := cX2_has) (maxL := 3) (ret := (some .int)) (Qc := fun A => va_Qi (fun r _ => r = -1) (gB D vwCl (gT K) A) A) (by decide) rfl (Nat.le_of_ble_eq_true rfl) ?_
  intro p e s m below meth c A ls I hl
  have I0 := I
  obtain ⟨hx, hb, hr, hml, hown, hts, hlocks, hnm, hA, hK, hP, hD, hS⟩ := I
  have hown : s.vm.findClass RX2 = some m.cls := hown
  have hl : lv_has ls 3 [(0, .ref h0), (1, .int x), (2, .int y)] := hl
  have hi_X2 : ∀ w ∈ u_ws RX2 TX2 8, w ∈ wsX2_has := by decide +kernel
  have hi_X1 : ∀ w ∈ u_ws RX1 TX1 5, w ∈ wsX2_has := by decide +kernel
  refine lv_aload_n hx hb dX2_has_0 rfl (lv_at hl 0 rfl) ?_
  refine lv_iload_n hx hb dX2_has_1 rfl (lv_at hl 1 rfl) ?_
  refine g_calli (va_runV (As := [.int _]) (rest := []) ⟨hx, hb, hml, hown, hts⟩ (c_isBooking l D K _ h0 ar ac aq (pa 0) 0 0 0 0 x _ rfl) (cwV 1 hts gX2_has_X2_isBooking rfl rfl rfl (by decide +kernel) ⟨(Nat.le_of_ble_eq_true rfl), (Nat.le_of_ble_eq_true rfl)⟩) (g_preV hK hP hD (ci := 2) (q0 := 0) rfl (rfl)) rfl rfl hl.1 rfl (lv_room (Nat.le_of_ble_eq_true rfl)) dX2_has_2 ⟨Nat.zero_le _, Nat.zero_le _⟩) hD hS hA (fun r2 w H locs hw hP hD hS => ?_)
  obtain ⟨rfl, e2⟩ := hw
  refine lv_if_eq (tgt := 15) hx hb dX2_has_5 (by decide) (fun c5 => ?_) (fun c5 => ?_)
  · refine lv_iconst (v := -1) hx hb dX2_has_15 (by decide) ?_
    exact g_iret hx hb hr hlocks (Nat.le_of_ble_eq_true rfl) (Nat.le_of_ble_eq_true rfl) hK hP hD hS dX2_has_16 (rfl)
  · exact absurd (e2.mpr (fun h => by simp only [Int32.le_iff_toInt_le, Int32.lt_iff_toInt_lt, gl_m1, gl_0, gl_1, gl_2, gl_3, gl_5, gl_6, gl_8, gl_9, gl_10, gl_11, gl_20, gl_40, gl_60] at h; omega)) c5
set_option maxHeartbeats 4000000 in
set_option maxRecDepth 100000 in
/-- waiting on a new hall -/
theorem c_waiting (l : Launch) (D : va_G) (K : gCl) (h0 ar ac aq : Nat) (ra oa pa na : Nat → Nat) (x : Int32) (sz : Nat)  : gMi l yX2_waiting wsX2_waiting ({ frames := 3, cells := 0, slots := 0, locals := 120 } : Room) D vwCl (gT K) [.ref h0, .int x] (gsN K h0 ar ac aq ra oa pa na) sz (fun r _ => r = -8) 0 0 := by
  refine g_of (cc := cX2_waiting) (maxL := 2) (ret := (some .int)) (Qc := fun A => va_Qi (fun r _ => r = -8) (gB D vwCl (gT K) A) A) (by decide) rfl (Nat.le_of_ble_eq_true rfl) ?_
  intro p e s m below meth c A ls I hl
  have I0 := I
  obtain ⟨hx, hb, hr, hml, hown, hts, hlocks, hnm, hA, hK, hP, hD, hS⟩ := I
  have hown : s.vm.findClass RX2 = some m.cls := hown
  have hl : lv_has ls 2 [(0, .ref h0), (1, .int x)] := hl
  have hi_X2 : ∀ w ∈ u_ws RX2 TX2 8, w ∈ wsX2_waiting := by decide +kernel
  refine lv_aload_n hx hb dX2_waiting_0 rfl (lv_at hl 0 rfl) ?_
  refine lv_iload_n hx hb dX2_waiting_1 rfl (lv_at hl 1 rfl) ?_
  refine g_calli (va_runV (As := [.int _]) (rest := []) ⟨hx, hb, hml, hown, hts⟩ (c_isWaiting l D K _ h0 ar ac aq (pa 0) 0 0 0 0 x _ rfl) (cwV 1 hts gX2_waiting_X2_isWaiting rfl rfl rfl (by decide +kernel) ⟨(Nat.le_of_ble_eq_true rfl), (Nat.le_of_ble_eq_true rfl)⟩) (g_preV hK hP hD (ci := 2) (q0 := 0) rfl (rfl)) rfl rfl hl.1 rfl (lv_room (Nat.le_of_ble_eq_true rfl)) dX2_waiting_2 ⟨Nat.zero_le _, Nat.zero_le _⟩) hD hS hA (fun r2 w H locs hw hP hD hS => ?_)
  obtain ⟨rfl, e2⟩ := hw
  refine lv_if_eq (tgt := 20) hx hb dX2_waiting_5 (by decide) (fun c5 => ?_) (fun c5 => ?_)
  · refine lv_bipush (v := -8) hx hb dX2_waiting_20 (by decide) ?_
    exact g_iret hx hb hr hlocks (Nat.le_of_ble_eq_true rfl) (Nat.le_of_ble_eq_true rfl) hK hP hD hS dX2_waiting_22 (rfl)
  · exact absurd (e2.mpr (fun h => by simp only [Int32.le_iff_toInt_le, Int32.lt_iff_toInt_lt, gl_m1, gl_0, gl_1, gl_2, gl_3, gl_5, gl_6, gl_8, gl_9, gl_10, gl_11, gl_20, gl_40, gl_60] at h; omega)) c5
set_option maxHeartbeats 4000000 in
set_option maxRecDepth 100000 in
/-- seat on a new hall -/
theorem c_seat (l : Launch) (D : va_G) (K : gCl) (h0 ar ac aq : Nat) (ra oa pa na : Nat → Nat) (x i : Int32) (sz : Nat)  : gMi l yX2_seat wsX2_seat ({ frames := 3, cells := 0, slots := 0, locals := 120 } : Room) D vwCl (gT K) [.ref h0, .int x, .int i] (gsN K h0 ar ac aq ra oa pa na) sz (fun r _ => r = eSeat x i) 0 0 := by
  refine g_of (cc := cX2_seat) (maxL := 3) (ret := (some .int)) (Qc := fun A => va_Qi (fun r _ => r = eSeat x i) (gB D vwCl (gT K) A) A) (by decide) rfl (Nat.le_of_ble_eq_true rfl) ?_
  intro p e s m below meth c A ls I hl
  have I0 := I
  obtain ⟨hx, hb, hr, hml, hown, hts, hlocks, hnm, hA, hK, hP, hD, hS⟩ := I
  have hown : s.vm.findClass RX2 = some m.cls := hown
  have hl : lv_has ls 3 [(0, .ref h0), (1, .int x), (2, .int i)] := hl
  have hi_X2 : ∀ w ∈ u_ws RX2 TX2 8, w ∈ wsX2_seat := by decide +kernel
  have hi_X1 : ∀ w ∈ u_ws RX1 TX1 5, w ∈ wsX2_seat := by decide +kernel
  refine lv_iload_n hx hb dX2_seat_0 rfl (lv_at hl 1 rfl) ?_
  refine g_calli (va_runS (As := [.int _]) (rest := []) ⟨hx, hb, hml, hown, hts⟩ (c_isRow l D K _ x _) (va_cwS 1 hts gX2_seat_X2_isRow rfl rfl rfl (by decide +kernel) ⟨(Nat.le_of_ble_eq_true rfl), (Nat.le_of_ble_eq_true rfl)⟩) (g_preS hK hP hD) rfl rfl hl.1 rfl (lv_room (Nat.le_of_ble_eq_true rfl)) dX2_seat_1 ⟨Nat.zero_le _, Nat.zero_le _⟩) hD hS hA (fun r1 w H locs hw hP hD hS => ?_)
  obtain ⟨rfl, e1⟩ := hw
  refine lv_if_eq (tgt := 11) hx hb dX2_seat_4 (by decide) (fun c4 => ?_) (fun c4 => ?_)
  · simp only [e1, Classical.not_not] at c4
    refine lv_iconst (v := -1) hx hb dX2_seat_11 (by decide) ?_
    exact g_iret hx hb hr hlocks (Nat.le_of_ble_eq_true rfl) (Nat.le_of_ble_eq_true rfl) hK hP hD hS dX2_seat_12 (by unfold eSeat; split <;> rename_i h <;> first | rfl | decide | (exfalso; simp only [Int32.le_iff_toInt_le, Int32.lt_iff_toInt_lt, gl_m1, gl_0, gl_1, gl_2, gl_3, gl_5, gl_6, gl_8, gl_9, gl_10, gl_11, gl_20, gl_40, gl_60] at h c4; omega))
  · simp only [e1, Classical.not_not] at c4
    refine lv_iload_n hx hb dX2_seat_7 rfl (lv_at hl 2 rfl) ?_
    refine lv_if_ge (tgt := 13) hx hb dX2_seat_8 (by decide) (fun c8 => ?_) (fun c8 => ?_)
    · obtain ⟨j, hj, rfl⟩ := g_ix (n := 10) rfl c4
      refine lv_iload_n hx hb dX2_seat_13 rfl (lv_at hl 2 rfl) ?_
      refine lv_aload_n hx hb dX2_seat_14 rfl (lv_at hl 0 rfl) ?_
      refine va_get (C := RX2) (T := TX2) (N := 8) (ci := 2) hx hb hts hi_X2 hown hK hP (0) (rfl) rfl 0 (by decide) (hts (.fieldLink RX2 11 "GroupSeats" "rows" "[LGroupSeats$Row;") (by decide +kernel)) (fun _ h9 => h9) rfl dX2_seat_15 ?_
      refine lv_iload_n hx hb dX2_seat_18 rfl (lv_at hl 1 rfl) ?_
      refine g_aldq hx hb hK hP (1) 2 (rfl) rfl (vp_in_nI hj (by decide)) (gRf_at hj (by decide)) dX2_seat_19 ?_
      refine va_get (C := RX1) (T := TX1) (N := 5) (ci := 1) hx hb hts hi_X1 hown hK hP (2 * j + 4) (gsN_row hj) rfl 1 (by decide) (hts (.fieldLink RX2 51 "GroupSeats$Row" "size" "I") (by decide +kernel)) (fun _ h9 => h9) rfl dX2_seat_20 ?_
      refine lv_icmp_lt (tgt := 29) hx hb dX2_seat_23 (by decide) (fun c23 => ?_) (fun c23 => ?_)
      · exact absurd c23 (by simp only [Int32.le_iff_toInt_le, Int32.lt_iff_toInt_lt, gl_m1, gl_0, gl_1, gl_2, gl_3, gl_5, gl_6, gl_8, gl_9, gl_10, gl_11, gl_20, gl_40, gl_60] at c8 ⊢; omega)
      · refine lv_bipush (v := -2) hx hb dX2_seat_26 (by decide) ?_
        exact g_iret hx hb hr hlocks (Nat.le_of_ble_eq_true rfl) (Nat.le_of_ble_eq_true rfl) hK hP hD hS dX2_seat_28 (by unfold eSeat; split <;> rename_i h <;> first | rfl | decide | (exfalso; simp only [Int32.le_iff_toInt_le, Int32.lt_iff_toInt_lt, gl_m1, gl_0, gl_1, gl_2, gl_3, gl_5, gl_6, gl_8, gl_9, gl_10, gl_11, gl_20, gl_40, gl_60] at h c4 c8 c23; omega))
    · refine lv_iconst (v := -1) hx hb dX2_seat_11 (by decide) ?_
      exact g_iret hx hb hr hlocks (Nat.le_of_ble_eq_true rfl) (Nat.le_of_ble_eq_true rfl) hK hP hD hS dX2_seat_12 (by unfold eSeat; split <;> rename_i h <;> first | rfl | decide | (exfalso; simp only [Int32.le_iff_toInt_le, Int32.lt_iff_toInt_lt, gl_m1, gl_0, gl_1, gl_2, gl_3, gl_5, gl_6, gl_8, gl_9, gl_10, gl_11, gl_20, gl_40, gl_60] at h c4 c8; omega))
set_option maxHeartbeats 4000000 in
set_option maxRecDepth 100000 in
/-- about on a new hall -/
theorem c_about (l : Launch) (D : va_G) (K : gCl) (h0 ar ac aq : Nat) (ra oa pa na : Nat → Nat) (x k : Int32) (sz : Nat)  : gMi l yX2_about wsX2_about ({ frames := 3, cells := 0, slots := 0, locals := 120 } : Room) D vwCl (gT K) [.ref h0, .int x, .int k] (gsN K h0 ar ac aq ra oa pa na) sz (fun r _ => r = eAbout x k) 0 0 := by
  refine g_of (cc := cX2_about) (maxL := 4) (ret := (some .int)) (Qc := fun A => va_Qi (fun r _ => r = eAbout x k) (gB D vwCl (gT K) A) A) (by decide) rfl (Nat.le_of_ble_eq_true rfl) ?_
  intro p e s m below meth c A ls I hl
  have I0 := I
  obtain ⟨hx, hb, hr, hml, hown, hts, hlocks, hnm, hA, hK, hP, hD, hS⟩ := I
  have hown : s.vm.findClass RX2 = some m.cls := hown
  have hl : lv_has ls 4 [(0, .ref h0), (1, .int x), (2, .int k)] := hl
  have hi_X2 : ∀ w ∈ u_ws RX2 TX2 8, w ∈ wsX2_about := by decide +kernel
  have hi_X1 : ∀ w ∈ u_ws RX1 TX1 5, w ∈ wsX2_about := by decide +kernel
  refine lv_iload_n hx hb dX2_about_0 rfl (lv_at hl 1 rfl) ?_
  refine g_calli (va_runS (As := [.int _]) (rest := []) ⟨hx, hb, hml, hown, hts⟩ (c_isRow l D K _ x _) (va_cwS 1 hts gX2_about_X2_isRow rfl rfl rfl (by decide +kernel) ⟨(Nat.le_of_ble_eq_true rfl), (Nat.le_of_ble_eq_true rfl)⟩) (g_preS hK hP hD) rfl rfl hl.1 rfl (lv_room (Nat.le_of_ble_eq_true rfl)) dX2_about_1 ⟨Nat.zero_le _, Nat.zero_le _⟩) hD hS hA (fun r1 w H locs hw hP hD hS => ?_)
  obtain ⟨rfl, e1⟩ := hw
  refine lv_if_eq (tgt := 16) hx hb dX2_about_4 (by decide) (fun c4 => ?_) (fun c4 => ?_)
  · simp only [e1, Classical.not_not] at c4
    refine lv_iconst (v := -1) hx hb dX2_about_16 (by decide) ?_
    exact g_iret hx hb hr hlocks (Nat.le_of_ble_eq_true rfl) (Nat.le_of_ble_eq_true rfl) hK hP hD hS dX2_about_17 (by unfold eAbout; split <;> rename_i h <;> first | rfl | decide | (exfalso; simp only [Int32.le_iff_toInt_le, Int32.lt_iff_toInt_lt, gl_m1, gl_0, gl_1, gl_2, gl_3, gl_5, gl_6, gl_8, gl_9, gl_10, gl_11, gl_20, gl_40, gl_60] at h c4; omega))
  · simp only [e1, Classical.not_not] at c4
    refine lv_iload_n hx hb dX2_about_7 rfl (lv_at hl 2 rfl) ?_
    refine lv_if_lt (tgt := 16) hx hb dX2_about_8 (by decide) (fun c8 => ?_) (fun c8 => ?_)
    · refine lv_iconst (v := -1) hx hb dX2_about_16 (by decide) ?_
      exact g_iret hx hb hr hlocks (Nat.le_of_ble_eq_true rfl) (Nat.le_of_ble_eq_true rfl) hK hP hD hS dX2_about_17 (by unfold eAbout; split <;> rename_i h <;> first | rfl | decide | (exfalso; simp only [Int32.le_iff_toInt_le, Int32.lt_iff_toInt_lt, gl_m1, gl_0, gl_1, gl_2, gl_3, gl_5, gl_6, gl_8, gl_9, gl_10, gl_11, gl_20, gl_40, gl_60] at h c4 c8; omega))
    · refine lv_iload_n hx hb dX2_about_11 rfl (lv_at hl 2 rfl) ?_
      refine lv_iconst (v := 3) hx hb dX2_about_12 (by decide) ?_
      refine lv_icmp_le (tgt := 18) hx hb dX2_about_13 (by decide) (fun c13 => ?_) (fun c13 => ?_)
      · obtain ⟨j, hj, rfl⟩ := g_ix (n := 10) rfl c4
        refine lv_aload_n hx hb dX2_about_18 rfl (lv_at hl 0 rfl) ?_
        refine va_get (C := RX2) (T := TX2) (N := 8) (ci := 2) hx hb hts hi_X2 hown hK hP (0) (rfl) rfl 0 (by decide) (hts (.fieldLink RX2 11 "GroupSeats" "rows" "[LGroupSeats$Row;") (by decide +kernel)) (fun _ h9 => h9) rfl dX2_about_19 ?_
        refine lv_iload_n hx hb dX2_about_22 rfl (lv_at hl 1 rfl) ?_
        refine g_aldq hx hb hK hP (1) 2 (rfl) rfl (vp_in_nI hj (by decide)) (gRf_at hj (by decide)) dX2_about_23 ?_
        refine lv_astore_n (lv' := [(3, .ref _), (0, .ref _), (1, .int _), (2, .int _)]) hx hb dX2_about_24 rfl hl (by decide) rfl (fun ls hl => ?_)
        refine lv_aload_n hx hb dX2_about_25 rfl (lv_at hl 0 rfl) ?_
        refine g_calli (va_runV (As := []) (rest := []) ⟨hx, hb, hml, hown, hts⟩ (c_isOpen l D K _ (ra j) (oa j) (2 * j + 4) 0 0 0 0 _ (gsN_row hj)) (cwV 0 hts gX2_about_X1_isOpen rfl rfl rfl (by decide +kernel) ⟨(Nat.le_of_ble_eq_true rfl), (Nat.le_of_ble_eq_true rfl)⟩) (g_preV hK hP hD (ci := 1) (q0 := 2 * j + 4) rfl (gsN_row hj)) rfl rfl hl.1 rfl (lv_room (Nat.le_of_ble_eq_true rfl)) dX2_about_26 ⟨Nat.zero_le _, Nat.zero_le _⟩) hD hS hA (fun r26 w H locs hw hP hD hS => ?_)
        obtain ⟨rfl, e26⟩ := hw
        refine lv_if_ne (tgt := 35) hx hb dX2_about_29 (by decide) (fun c29 => ?_) (fun c29 => ?_)
        · exact absurd (e26.mpr (by decide)) c29
        · refine lv_bipush (v := -2) hx hb dX2_about_32 (by decide) ?_
          exact g_iret hx hb hr hlocks (Nat.le_of_ble_eq_true rfl) (Nat.le_of_ble_eq_true rfl) hK hP hD hS dX2_about_34 (by unfold eAbout; split <;> rename_i h <;> first | rfl | decide | (exfalso; simp only [Int32.le_iff_toInt_le, Int32.lt_iff_toInt_lt, gl_m1, gl_0, gl_1, gl_2, gl_3, gl_5, gl_6, gl_8, gl_9, gl_10, gl_11, gl_20, gl_40, gl_60] at h c4 c8 c13 c29; omega))
      · refine lv_iconst (v := -1) hx hb dX2_about_16 (by decide) ?_
        exact g_iret hx hb hr hlocks (Nat.le_of_ble_eq_true rfl) (Nat.le_of_ble_eq_true rfl) hK hP hD hS dX2_about_17 (by unfold eAbout; split <;> rename_i h <;> first | rfl | decide | (exfalso; simp only [Int32.le_iff_toInt_le, Int32.lt_iff_toInt_lt, gl_m1, gl_0, gl_1, gl_2, gl_3, gl_5, gl_6, gl_8, gl_9, gl_10, gl_11, gl_20, gl_40, gl_60] at h c4 c8 c13; omega))
set_option maxHeartbeats 4000000 in
set_option maxRecDepth 100000 in
theorem lp_openRows {p : Program} {l : Launch} {e : Env} {s : State} {m : MethodId} {args : Array Value} {below : List Frame} {meth : Method} {c : Code} {A : Nat → Prop} {D : va_G} {K : gCl} {h0 ar ac aq : Nat} {ra oa pa na : Nat → Nat} {ws0 : va_W}
    (I : gIn p s m meth c A yX2_openRows wsX2_openRows cX2_openRows 3 (some .int) args D vwCl (gT K) ws0) :
    ∀ (k j : Nat), j + k = 10 → ∀ (H : Heap) (locs : List Loc), va_P D vwCl (gsN K h0 ar ac aq ra oa pa na) H → va_D A (gsN K h0 ar ac aq ra oa pa na) → va_S A s.heap H locs → ∀ (ls : Array Slot), lv_has ls 3 [(2, .int (nI j)), (1, .int 0), (0, .ref h0)] →
    W p l e { frames := 1, cells := 0, slots := 0, locals := 40 } s m args below meth c H locs 0 0 (MQ below (va_Qi (fun r _ => r = 0) (gB D vwCl (gT K) A) A) args s 0 0 A) (F0 m 4 ls []) := by
  obtain ⟨hx, hb, hr, hml, hown, hts, hlocks, hnm, hA, hK, -, -, -⟩ := I
  have hown : s.vm.findClass RX2 = some m.cls := hown
  have hi_X2 : ∀ w ∈ u_ws RX2 TX2 8, w ∈ wsX2_openRows := by decide +kernel
  intro k
  induction k with
  | zero =>
    intro j hj10 H locs hP hD hS ls hl
    have hj : j = 10 := by omega
    subst hj
    refine lv_iload_n hx hb dX2_openRows_4 rfl (lv_at hl 0 rfl) ?_
    refine lv_bipush (v := 10) hx hb dX2_openRows_5 (by decide) ?_
    refine lv_icmp_ge (tgt := 31) hx hb dX2_openRows_7 (by decide) (fun c7 => ?_) (fun c7 => absurd (by decide) c7)
    refine lv_iload_n hx hb dX2_openRows_31 rfl (lv_at hl 1 rfl) ?_
    exact g_iret hx hb hr hlocks (Nat.le_refl _) (Nat.le_refl _) hK hP hD hS dX2_openRows_32 rfl
  | succ k ih =>
    intro j hj10 H locs hP hD hS ls hl
    refine lv_iload_n hx hb dX2_openRows_4 rfl (lv_at hl 0 rfl) ?_
    refine lv_bipush (v := 10) hx hb dX2_openRows_5 (by decide) ?_
    refine lv_icmp_ge (tgt := 31) hx hb dX2_openRows_7 (by decide) (fun c7 => ?_) (fun c7 => ?_)
    · refine lv_iload_n hx hb dX2_openRows_31 rfl (lv_at hl 1 rfl) ?_
      exact g_iret hx hb hr hlocks (Nat.le_of_ble_eq_true rfl) (Nat.le_of_ble_eq_true rfl) hK hP hD hS dX2_openRows_32 (rfl)
    · have hj : j < 10 := by
        rcases Nat.lt_or_ge j 10 with q | q
        · exact q
        · exact absurd (nI_le (a := 10) q (by omega)) c7
      refine lv_aload_n hx hb dX2_openRows_10 rfl (lv_at hl 2 rfl) ?_
      refine va_get (C := RX2) (T := TX2) (N := 8) (ci := 2) hx hb hts hi_X2 hown hK hP (0) (rfl) rfl 0 (by decide) (hts (.fieldLink RX2 11 "GroupSeats" "rows" "[LGroupSeats$Row;") (by decide +kernel)) (fun _ h9 => h9) rfl dX2_openRows_11 ?_
      refine lv_iload_n hx hb dX2_openRows_14 rfl (lv_at hl 0 rfl) ?_
      refine g_aldq hx hb hK hP (1) 2 (rfl) rfl (vp_in_nI hj (by decide)) (gRf_at hj (by decide)) dX2_openRows_15 ?_
      refine g_calli (va_runV (As := []) (rest := []) ⟨hx, hb, hml, hown, hts⟩ (c_isOpen l D K _ (ra j) (oa j) (2 * j + 4) 0 0 0 0 _ (gsN_row hj)) (cwV 0 hts gX2_openRows_X1_isOpen rfl rfl rfl (by decide +kernel) ⟨(Nat.le_of_ble_eq_true rfl), (Nat.le_of_ble_eq_true rfl)⟩) (g_preV hK hP hD (ci := 1) (q0 := 2 * j + 4) rfl (gsN_row hj)) rfl rfl hl.1 rfl (lv_room (Nat.le_of_ble_eq_true rfl)) dX2_openRows_16 ⟨Nat.zero_le _, Nat.zero_le _⟩) hD hS hA (fun r16 w H locs hw hP hD hS => ?_)
      obtain ⟨rfl, e16⟩ := hw
      refine lv_if_eq (tgt := 25) hx hb dX2_openRows_19 (by decide) (fun c19 => ?_) (fun c19 => ?_)
      · refine lv_iinc (lv' := [(2, .int _), (1, .int _), (0, .ref _)]) hx hb dX2_openRows_25 hl (k := 0) rfl rfl (by decide) rfl (fun ls hl => ?_)
        refine lv_goto (tgt := 4) hx hb dX2_openRows_28 (by decide) ?_
        rw [g_inc] at hl
        exact ih (j + 1) (by omega) H locs hP hD hS ls (lv_sub hl [0, 1, 2] rfl)
      · exact absurd (e16.mpr (by decide)) c19
set_option maxHeartbeats 4000000 in
set_option maxRecDepth 100000 in
/-- openRows() on a new hall -/
theorem c_openRows (l : Launch) (D : va_G) (K : gCl) (h0 ar ac aq : Nat) (ra oa pa na : Nat → Nat) (sz : Nat)  : gMi l yX2_openRows wsX2_openRows ({ frames := 1, cells := 0, slots := 0, locals := 40 } : Room) D vwCl (gT K) [.ref h0] (gsN K h0 ar ac aq ra oa pa na) sz (fun r _ => r = 0) 0 0 := by
  refine g_of (cc := cX2_openRows) (maxL := 3) (ret := (some .int)) (Qc := fun A => va_Qi (fun r _ => r = 0) (gB D vwCl (gT K) A) A) (by decide) rfl (Nat.le_of_ble_eq_true rfl) ?_
  intro p e s m below meth c A ls I hl
  have I0 := I
  obtain ⟨hx, hb, hr, hml, hown, hts, hlocks, hnm, hA, hK, hP, hD, hS⟩ := I
  have hown : s.vm.findClass RX2 = some m.cls := hown
  have hl : lv_has ls 3 [(0, .ref h0)] := hl
  have hi_X2 : ∀ w ∈ u_ws RX2 TX2 8, w ∈ wsX2_openRows := by decide +kernel
  refine lv_iconst (v := 0) hx hb dX2_openRows_0 (by decide) ?_
  refine lv_istore_n (lv' := [(1, .int _), (0, .ref _)]) hx hb dX2_openRows_1 rfl hl (by decide) rfl (fun ls hl => ?_)
  refine lv_iconst (v := 0) hx hb dX2_openRows_2 (by decide) ?_
  refine lv_istore_n (lv' := [(2, .int _), (1, .int _), (0, .ref _)]) hx hb dX2_openRows_3 rfl hl (by decide) rfl (fun ls hl => ?_)
  exact lp_openRows I0 10 0 rfl _ _ hP hD hS ls (lv_sub hl [0, 1, 2] rfl)
set_option maxHeartbeats 4000000 in
set_option maxRecDepth 100000 in
/-- told on a new hall -/
theorem c_told (l : Launch) (D : va_G) (K : gCl) (h0 ar ac aq : Nat) (ra oa pa na : Nat → Nat) (k : Int32) (sz : Nat)  : gMi l yX2_told wsX2_told ({ frames := 3, cells := 0, slots := 0, locals := 120 } : Room) D vwCl (gT K) [.ref h0, .int k] (gsN K h0 ar ac aq ra oa pa na) sz (fun r _ => r = eTold k) 0 0 := by
  refine g_of (cc := cX2_told) (maxL := 2) (ret := (some .int)) (Qc := fun A => va_Qi (fun r _ => r = eTold k) (gB D vwCl (gT K) A) A) (by decide) rfl (Nat.le_of_ble_eq_true rfl) ?_
  intro p e s m below meth c A ls I hl
  have I0 := I
  obtain ⟨hx, hb, hr, hml, hown, hts, hlocks, hnm, hA, hK, hP, hD, hS⟩ := I
  have hown : s.vm.findClass RX2 = some m.cls := hown
  have hl : lv_has ls 2 [(0, .ref h0), (1, .int k)] := hl
  have hi_X2 : ∀ w ∈ u_ws RX2 TX2 8, w ∈ wsX2_told := by decide +kernel
  have hi_X0 : ∀ w ∈ u_ws RX0 TX0 4, w ∈ wsX2_told := by decide +kernel
  refine lv_iload_n hx hb dX2_told_0 rfl (lv_at hl 1 rfl) ?_
  rcases g_sw k 5 (by decide) with hk | ⟨i, hi, rfl⟩
  · refine lv_tableOut (tgt := 73) hx hb dX2_told_1 hk (by decide) ?_
    refine lv_iconst (v := -1) hx hb dX2_told_73 (by decide) ?_
    exact g_iret hx hb hr hlocks (Nat.le_of_ble_eq_true rfl) (Nat.le_of_ble_eq_true rfl) hK hP hD hS dX2_told_74 (by unfold eTold; rw [if_neg]; intro h; simp only [Int32.le_iff_toInt_le, Int32.lt_iff_toInt_lt, gl_m1, gl_0, gl_1, gl_2, gl_3, gl_5, gl_6, gl_8, gl_9, gl_10, gl_11, gl_20, gl_40, gl_60] at h; omega)
  · rcases (show i = 0 ∨ i = 1 ∨ i = 2 ∨ i = 3 ∨ i = 4 ∨ i = 5 by omega) with rfl | rfl | rfl | rfl | rfl | rfl
    · refine lv_tableIn (off := 39) (tgt := 40) hx hb dX2_told_1 (by decide) (by decide) rfl (by decide) ?_
      refine lv_aload_n hx hb dX2_told_40 rfl (lv_at hl 0 rfl) ?_
      refine va_get (C := RX2) (T := TX2) (N := 8) (ci := 2) hx hb hts hi_X2 hown hK hP (0) (rfl) rfl 4 (by decide) (hts (.fieldLink RX2 66 "GroupSeats" "bookings" "I") (by decide +kernel)) (fun _ h9 => h9) rfl dX2_told_41 ?_
      exact g_iret hx hb hr hlocks (Nat.le_of_ble_eq_true rfl) (Nat.le_of_ble_eq_true rfl) hK hP hD hS dX2_told_44 (by decide)
    · refine lv_tableIn (off := 44) (tgt := 45) hx hb dX2_told_1 (by decide) (by decide) rfl (by decide) ?_
      refine lv_aload_n hx hb dX2_told_45 rfl (lv_at hl 0 rfl) ?_
      refine va_get (C := RX2) (T := TX2) (N := 8) (ci := 2) hx hb hts hi_X2 hown hK hP (0) (rfl) rfl 5 (by decide) (hts (.fieldLink RX2 77 "GroupSeats" "waiters" "I") (by decide +kernel)) (fun _ h9 => h9) rfl dX2_told_46 ?_
      exact g_iret hx hb hr hlocks (Nat.le_of_ble_eq_true rfl) (Nat.le_of_ble_eq_true rfl) hK hP hD hS dX2_told_49 (by decide)
    · refine lv_tableIn (off := 49) (tgt := 50) hx hb dX2_told_1 (by decide) (by decide) rfl (by decide) ?_
      refine lv_aload_n hx hb dX2_told_50 rfl (lv_at hl 0 rfl) ?_
      refine va_get (C := RX2) (T := TX2) (N := 8) (ci := 2) hx hb hts hi_X2 hown hK hP (0) (rfl) rfl 6 (by decide) (hts (.fieldLink RX2 101 "GroupSeats" "mostHeld" "I") (by decide +kernel)) (fun _ h9 => h9) rfl dX2_told_51 ?_
      exact g_iret hx hb hr hlocks (Nat.le_of_ble_eq_true rfl) (Nat.le_of_ble_eq_true rfl) hK hP hD hS dX2_told_54 (by decide)
    · refine lv_tableIn (off := 54) (tgt := 55) hx hb dX2_told_1 (by decide) (by decide) rfl (by decide) ?_
      refine lv_aload_n hx hb dX2_told_55 rfl (lv_at hl 0 rfl) ?_
      refine va_get (C := RX2) (T := TX2) (N := 8) (ci := 2) hx hb hts hi_X2 hown hK hP (0) (rfl) rfl 7 (by decide) (hts (.fieldLink RX2 104 "GroupSeats" "failures" "I") (by decide +kernel)) (fun _ h9 => h9) rfl dX2_told_56 ?_
      exact g_iret hx hb hr hlocks (Nat.le_of_ble_eq_true rfl) (Nat.le_of_ble_eq_true rfl) hK hP hD hS dX2_told_59 (by decide)
    · refine lv_tableIn (off := 59) (tgt := 60) hx hb dX2_told_1 (by decide) (by decide) rfl (by decide) ?_
      refine lv_aload_n hx hb dX2_told_60 rfl (lv_at hl 0 rfl) ?_
      refine va_get (C := RX2) (T := TX2) (N := 8) (ci := 2) hx hb hts hi_X2 hown hK hP (0) (rfl) rfl 3 (by decide) (hts (.fieldLink RX2 26 "GroupSeats" "coming" "LGroupSeats$Party;") (by decide +kernel)) (fun _ h9 => h9) rfl dX2_told_61 ?_
      refine va_get (C := RX0) (T := TX0) (N := 4) (ci := 0) hx hb hts hi_X0 hown hK hP (24) (gsN_par0) rfl 1 (by decide) (hts (.fieldLink RX2 59 "GroupSeats$Party" "listed" "I") (by decide +kernel)) (fun _ h9 => h9) rfl dX2_told_64 ?_
      exact g_iret hx hb hr hlocks (Nat.le_of_ble_eq_true rfl) (Nat.le_of_ble_eq_true rfl) hK hP hD hS dX2_told_67 (by decide)
    · refine lv_tableIn (off := 67) (tgt := 68) hx hb dX2_told_1 (by decide) (by decide) rfl (by decide) ?_
      refine lv_aload_n hx hb dX2_told_68 rfl (lv_at hl 0 rfl) ?_
      refine g_calli (va_runV (As := []) (rest := []) ⟨hx, hb, hml, hown, hts⟩ (c_openRows l D K h0 ar ac aq ra oa pa na _) (cwV 0 hts gX2_told_X2_openRows rfl rfl rfl (by decide +kernel) ⟨(Nat.le_of_ble_eq_true rfl), (Nat.le_of_ble_eq_true rfl)⟩) (g_preV hK hP hD (ci := 2) (q0 := 0) rfl (rfl)) rfl rfl hl.1 rfl (lv_room (Nat.le_of_ble_eq_true rfl)) dX2_told_69 ⟨Nat.zero_le _, Nat.zero_le _⟩) hD hS hA (fun r69 w H locs hw hP hD hS => ?_)
      subst hw
      exact g_iret hx hb hr hlocks (Nat.le_of_ble_eq_true rfl) (Nat.le_of_ble_eq_true rfl) hK hP hD hS dX2_told_72 (by decide)
