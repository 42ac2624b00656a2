theorem g_le9 {x : Int32} (h : x ≤ 9) : x < 10 := by
  simp only [Int32.le_iff_toInt_le, Int32.lt_iff_toInt_lt, gl_m1, gl_0, gl_1, gl_2, gl_3, gl_5, gl_6, gl_8, gl_9, gl_10, gl_11, gl_20, gl_40, gl_60] at h ⊢
  omega
theorem g_in200 {j i : Nat} (hj : j < 10) (hi : i < 20) : vp_in (20 * nI j + nI i) 200 := by
  rw [show (20 : Int32) = nI 20 from rfl, pk_mul, nI_add]
  exact vp_in_nI (by omega) (by decide)
set_option maxHeartbeats 4000000 in
set_option maxRecDepth 100000 in
/-- the model: tried() where nobody waits -/
theorem m_tried0 (l : Launch) (D : va_G) (K : gCl) (ws : va_W) (ma : Nat → Nat) (th li bk mo fl wl fd : Int32) (sz : Nat) (he : ws[0]? = some (ma 0, gMob ma th li bk 0 mo fl wl fd)) : gMi l yX3_tried wsX3_tried ({ frames := 0, cells := 0, slots := 0, locals := 0 } : Room) D vwCl (gT K) [.ref (ma 0)] (ws) sz (fun r _ => r = 0) 0 0 := by
  refine g_of (cc := cX3_tried) (maxL := 4) (ret := (some .int)) (Qc := fun A => va_Qi (fun r _ => r = 0) (gB D vwCl (gT K) A) A) (by decide) rfl (Nat.le_of_ble_eq_true rfl) ?_
  intro p e s m below meth c A ls I hl
  have I0 := I
  obtain ⟨hx, hb, hr, hml, hown, hts, hlocks, hnm, hA, hK, hP, hD, hS⟩ := I
  have hown : s.vm.findClass RX3 = some m.cls := hown
  have hl : lv_has ls 4 [(0, .ref (ma 0))] := hl
  have hi_X3 : ∀ w ∈ u_ws RX3 TX3 21, w ∈ wsX3_tried := by decide +kernel
  refine lv_iconst (v := 0) hx hb dX3_tried_0 (by decide) ?_
  refine lv_istore_n (lv' := [(1, .int _), (0, .ref _)]) hx hb dX3_tried_1 rfl hl (by decide) rfl (fun ls hl => ?_)
  refine lv_iconst (v := 0) hx hb dX3_tried_2 (by decide) ?_
  refine lv_istore_n (lv' := [(2, .int _), (1, .int _), (0, .ref _)]) hx hb dX3_tried_3 rfl hl (by decide) rfl (fun ls hl => ?_)
  refine lv_iload_n hx hb dX3_tried_4 rfl (lv_at hl 0 rfl) ?_
  refine lv_aload_n hx hb dX3_tried_5 rfl (lv_at hl 2 rfl) ?_
  refine va_get (C := RX3) (T := TX3) (N := 21) (ci := 3) hx hb hts hi_X3 hown hK hP (0) (he) rfl 14 (by decide) (hts (.fieldLink RX3 84 "GroupSeatsModel" "waits" "I") (by decide +kernel)) (fun _ h9 => h9) rfl dX3_tried_6 ?_
  refine lv_icmp_ge (tgt := 95) hx hb dX3_tried_9 (by decide) (fun c9 => ?_) (fun c9 => ?_)
  · refine lv_iload_n hx hb dX3_tried_95 rfl (lv_at hl 1 rfl) ?_
    exact g_iret hx hb hr hlocks (Nat.le_of_ble_eq_true rfl) (Nat.le_of_ble_eq_true rfl) hK hP hD hS dX3_tried_96 (rfl)
  · exact absurd (by decide) c9
set_option maxHeartbeats 4000000 in
set_option maxRecDepth 100000 in
theorem lp_mopen {p : Program} {l : Launch} {e : Env} {s : State} {m : MethodId} {args : Array Value} {below : List Frame} {meth : Method} {c : Code} {A : Nat → Prop} {D : va_G} {K : gCl} {ws0 : va_W} {ma : Nat → Nat} {th li bk mo fl wl fd n E : Int32} {j : Nat} (hj : j < 10) (hE : 0 = E)
    (I : gIn p s m meth c A yX3_open wsX3_open cX3_open 4 (some .int) args D vwCl (gT K) ws0) :
    ∀ (k i : Nat), i + k = 20 → ∀ (ws : va_W) (f : Nat → Int32), ws[0]? = some (ma 0, gMob ma th li bk 0 mo fl wl fd) → ws[6]? = some (ma 6, gArr K.1 200 f) →
    ∀ (H : Heap) (locs : List Loc), va_P D vwCl ws H → va_D A ws → va_S A s.heap H locs → ∀ (ls : Array Slot), lv_has ls 4 [(3, .int (nI i)), (0, .ref (ma 0)), (1, .int (nI j)), (2, .int n)] →
    W p l e { frames := 2, cells := 0, slots := 0, locals := 80 } s m args below meth c H locs 0 0 (MQ below (va_Qi (fun r _ => r = E) (gB D vwCl (gT K) A) A) args s 0 0 A) (F0 m 76 ls []) := by
  obtain ⟨hx, hb, hr, hml, hown, hts, hlocks, hnm, hA, hK, -, -, -⟩ := I
  have hown : s.vm.findClass RX3 = some m.cls := hown
  have hi_X3 : ∀ w ∈ u_ws RX3 TX3 21, w ∈ wsX3_open := by decide +kernel
  intro k
  induction k with
  | zero =>
    intro i hi ws f he0 he6 H locs hP hD hS ls hl
    have hi20 : i = 20 := by omega
    subst hi20
    refine lv_iload_n hx hb dX3_open_76 rfl (lv_at hl 0 rfl) ?_
    refine lv_bipush (v := 20) hx hb dX3_open_77 (by decide) ?_
    refine lv_icmp_ge (tgt := 101) hx hb dX3_open_79 (by decide) (fun c79 => ?_) (fun c79 => ?_)
    · refine lv_aload_n hx hb dX3_open_101 rfl (lv_at hl 1 rfl) ?_
      refine g_calli (va_runV (As := []) (rest := []) ⟨hx, hb, hml, hown, hts⟩ (m_tried0 l D K _ ma th li bk mo fl wl fd _ he0) (cwV 0 hts gX3_open_X3_tried rfl rfl rfl (by decide +kernel) ⟨(Nat.le_of_ble_eq_true rfl), (Nat.le_of_ble_eq_true rfl)⟩) (g_preV hK hP hD (ci := 3) (q0 := 0) rfl (he0)) rfl rfl hl.1 rfl (lv_room (Nat.le_of_ble_eq_true rfl)) dX3_open_102 ⟨Nat.zero_le _, Nat.zero_le _⟩) hD hS hA (fun r102 w H locs hw hP hD hS => ?_)
      subst hw
      exact g_iret hx hb hr hlocks (Nat.le_of_ble_eq_true rfl) (Nat.le_of_ble_eq_true rfl) hK hP hD hS dX3_open_105 (hE)
    · exact absurd (by decide) c79
  | succ k ih =>
    intro i hi ws f he0 he6 H locs hP hD hS ls hl
    refine lv_iload_n hx hb dX3_open_76 rfl (lv_at hl 0 rfl) ?_
    refine lv_bipush (v := 20) hx hb dX3_open_77 (by decide) ?_
    refine lv_icmp_ge (tgt := 101) hx hb dX3_open_79 (by decide) (fun c79 => ?_) (fun c79 => ?_)
    · exact absurd c79 (nI_ge (b := 20) (by omega) (by decide))
    · have hi20 : i < 20 := by
        rcases Nat.lt_or_ge i 20 with q | q
        · exact q
        · exact absurd (nI_le (a := 20) q (by omega)) c79
      refine lv_aload_n hx hb dX3_open_82 rfl (lv_at hl 1 rfl) ?_
      refine va_get (C := RX3) (T := TX3) (N := 21) (ci := 3) hx hb hts hi_X3 hown hK hP (0) (he0) rfl 6 (by decide) (hts (.fieldLink RX3 26 "GroupSeatsModel" "seats" "[I") (by decide +kernel)) (fun _ h9 => h9) rfl dX3_open_83 ?_
      refine lv_bipush (v := 20) hx hb dX3_open_86 (by decide) ?_
      refine lv_iload_n hx hb dX3_open_88 rfl (lv_at hl 2 rfl) ?_
      refine lv_imul hx hb dX3_open_89 ?_
      refine lv_iload_n hx hb dX3_open_90 rfl (lv_at hl 0 rfl) ?_
      refine lv_iadd hx hb dX3_open_91 ?_
      refine lv_bipush (v := -8) hx hb dX3_open_92 (by decide) ?_
      refine va_iast hx hb hK hP hD hS (6) 0 (he6) rfl (g_in200 hj hi20) dX3_open_94 (fun H locs hP hD hS => ?_)
      refine lv_iinc (lv' := [(3, .int _), (0, .ref _), (1, .int _), (2, .int _)]) hx hb dX3_open_95 hl (k := 0) rfl rfl (by decide) rfl (fun ls hl => ?_)
      refine lv_goto (tgt := 76) hx hb dX3_open_98 (by decide) ?_
      rw [g_inc] at hl
      exact ih (i + 1) (by omega) _ _ (g_setne (by decide) he0) (g_setself he6) H locs hP hD hS ls (lv_sub hl [0, 1, 2, 3] rfl)
set_option maxHeartbeats 4000000 in
set_option maxRecDepth 100000 in
theorem m_open (l : Launch) (D : va_G) (K : gCl) (ma : Nat → Nat) (x n : Int32) (sz : Nat)  : gMi l yX3_open wsX3_open ({ frames := 2, cells := 0, slots := 0, locals := 80 } : Room) D vwCl (gT K) [.ref (ma 0), .int x, .int n] (mN K ma) sz (fun r _ => r = eOpen x n) 0 0 := by
  refine g_of (cc := cX3_open) (maxL := 4) (ret := (some .int)) (Qc := fun A => va_Qi (fun r _ => r = eOpen x n) (gB D vwCl (gT K) A) A) (by decide) rfl (Nat.le_of_ble_eq_true rfl) ?_
  intro p e s m below meth c A ls I hl
  have I0 := I
  obtain ⟨hx, hb, hr, hml, hown, hts, hlocks, hnm, hA, hK, hP, hD, hS⟩ := I
  have hown : s.vm.findClass RX3 = some m.cls := hown
  have hl : lv_has ls 4 [(0, .ref (ma 0)), (1, .int x), (2, .int n)] := hl
  have hi_X3 : ∀ w ∈ u_ws RX3 TX3 21, w ∈ wsX3_open := by decide +kernel
  refine lv_aload_n hx hb dX3_open_0 rfl (lv_at hl 0 rfl) ?_
  refine lv_iconst (v := 0) hx hb dX3_open_1 (by decide) ?_
  refine va_put (C := RX3) (T := TX3) (N := 21) (ci := 3) (ty := .int) hx hb hts hi_X3 tyX3 tyX3_ok nmX3 hown hK hP hD hS (0) (rfl) rfl 0 (by decide) (hts (.fieldLink RX3 50 "GroupSeatsModel" "thrown" "I") (by decide +kernel)) (fun _ h9 => h9) rfl (by decide +kernel) rfl rfl (Nat.le_of_ble_eq_true rfl) dX3_open_2 (fun H locs hP hD hS => ?_)
  have hP : va_P D vwCl (mN K ma) H := hP
  have hD : va_D A (mN K ma) := hD
  refine lv_iload_n hx hb dX3_open_5 rfl (lv_at hl 1 rfl) ?_
  refine lv_iconst (v := 0) hx hb dX3_open_6 (by decide) ?_
  refine lv_bipush (v := 9) hx hb dX3_open_7 (by decide) ?_
  refine g_calli (va_runS (As := [.int _, .int _, .int _]) (rest := []) ⟨hx, hb, hml, hown, hts⟩ (c_in l D K _ x 0 9 _) (va_cwS 3 hts gX3_open_X3_in rfl rfl rfl (by decide +kernel) ⟨(Nat.le_of_ble_eq_true rfl), (Nat.le_of_ble_eq_true rfl)⟩) (g_preS hK hP hD) rfl rfl hl.1 rfl (lv_room (Nat.le_of_ble_eq_true rfl)) dX3_open_9 ⟨Nat.zero_le _, Nat.zero_le _⟩) hD hS hA (fun r9 w H locs hw hP hD hS => ?_)
  obtain ⟨rfl, e9⟩ := hw
  refine lv_if_eq (tgt := 25) hx hb dX3_open_12 (by decide) (fun c12 => ?_) (fun c12 => ?_)
  · simp only [e9, Classical.not_not] at c12
    refine lv_iconst (v := -1) hx hb dX3_open_25 (by decide) ?_
    exact g_iret hx hb hr hlocks (Nat.le_of_ble_eq_true rfl) (Nat.le_of_ble_eq_true rfl) hK hP hD hS dX3_open_26 (by unfold eOpen; split <;> rename_i h <;> first | rfl | decide | (exfalso; simp only [Int32.le_iff_toInt_le, Int32.lt_iff_toInt_lt, gl_m1, gl_0, gl_1, gl_2, gl_3, gl_5, gl_6, gl_8, gl_9, gl_10, gl_11, gl_20, gl_40, gl_60] at h c12; omega))
  · simp only [e9, Classical.not_not] at c12
    refine lv_iload_n hx hb dX3_open_15 rfl (lv_at hl 2 rfl) ?_
    refine lv_iconst (v := 1) hx hb dX3_open_16 (by decide) ?_
    refine lv_bipush (v := 20) hx hb dX3_open_17 (by decide) ?_
    refine g_calli (va_runS (As := [.int _, .int _, .int _]) (rest := []) ⟨hx, hb, hml, hown, hts⟩ (c_in l D K _ n 1 20 _) (va_cwS 3 hts gX3_open_X3_in rfl rfl rfl (by decide +kernel) ⟨(Nat.le_of_ble_eq_true rfl), (Nat.le_of_ble_eq_true rfl)⟩) (g_preS hK hP hD) rfl rfl hl.1 rfl (lv_room (Nat.le_of_ble_eq_true rfl)) dX3_open_19 ⟨Nat.zero_le _, Nat.zero_le _⟩) hD hS hA (fun r19 w H locs hw hP hD hS => ?_)
    obtain ⟨rfl, e19⟩ := hw
    refine lv_if_ne (tgt := 27) hx hb dX3_open_22 (by decide) (fun c22 => ?_) (fun c22 => ?_)
    · simp only [e19, Classical.not_not] at c22
      obtain ⟨j, hj, rfl⟩ := g_ix (n := 10) (M := 10) rfl ⟨c12.1, g_le9 c12.2⟩
      refine lv_aload_n hx hb dX3_open_27 rfl (lv_at hl 0 rfl) ?_
      refine va_get (C := RX3) (T := TX3) (N := 21) (ci := 3) hx hb hts hi_X3 hown hK hP (0) (rfl) rfl 1 (by decide) (hts (.fieldLink RX3 7 "GroupSeatsModel" "isOpen" "[Z") (by decide +kernel)) (fun _ h9 => h9) rfl dX3_open_28 ?_
      refine lv_iload_n hx hb dX3_open_31 rfl (lv_at hl 1 rfl) ?_
      refine va_zald hx hb hK hP (1) 1 (rfl) rfl (vp_in_nI hj (by decide)) dX3_open_32 ?_
      refine lv_if_eq (tgt := 39) hx hb dX3_open_33 (by decide) (fun c33 => ?_) (fun c33 => ?_)
      · refine lv_aload_n hx hb dX3_open_39 rfl (lv_at hl 0 rfl) ?_
        refine va_get (C := RX3) (T := TX3) (N := 21) (ci := 3) hx hb hts hi_X3 hown hK hP (0) (rfl) rfl 1 (by decide) (hts (.fieldLink RX3 7 "GroupSeatsModel" "isOpen" "[Z") (by decide +kernel)) (fun _ h9 => h9) rfl dX3_open_40 ?_
        refine lv_iload_n hx hb dX3_open_43 rfl (lv_at hl 1 rfl) ?_
        refine lv_iconst (v := 1) hx hb dX3_open_44 (by decide) ?_
        refine va_zast hx hb hK hP hD hS (1) 1 (rfl) rfl (vp_in_nI hj (by decide)) dX3_open_45 (fun H locs hP hD hS => ?_)
        refine lv_aload_n hx hb dX3_open_46 rfl (lv_at hl 0 rfl) ?_
        refine va_get (C := RX3) (T := TX3) (N := 21) (ci := 3) hx hb hts hi_X3 hown hK hP (0) (rfl) rfl 2 (by decide) (hts (.fieldLink RX3 13 "GroupSeatsModel" "isStrict" "[Z") (by decide +kernel)) (fun _ h9 => h9) rfl dX3_open_47 ?_
        refine lv_iload_n hx hb dX3_open_50 rfl (lv_at hl 1 rfl) ?_
        refine lv_iconst (v := 0) hx hb dX3_open_51 (by decide) ?_
        refine va_zast hx hb hK hP hD hS (2) 1 (rfl) rfl (vp_in_nI hj (by decide)) dX3_open_52 (fun H locs hP hD hS => ?_)
        refine lv_aload_n hx hb dX3_open_53 rfl (lv_at hl 0 rfl) ?_
        refine va_get (C := RX3) (T := TX3) (N := 21) (ci := 3) hx hb hts hi_X3 hown hK hP (0) (rfl) rfl 3 (by decide) (hts (.fieldLink RX3 16 "GroupSeatsModel" "size" "[I") (by decide +kernel)) (fun _ h9 => h9) rfl dX3_open_54 ?_
        refine lv_iload_n hx hb dX3_open_57 rfl (lv_at hl 1 rfl) ?_
        refine lv_iload_n hx hb dX3_open_58 rfl (lv_at hl 2 rfl) ?_
        refine va_iast hx hb hK hP hD hS (3) 0 (rfl) rfl (vp_in_nI hj (by decide)) dX3_open_59 (fun H locs hP hD hS => ?_)
        refine lv_aload_n hx hb dX3_open_60 rfl (lv_at hl 0 rfl) ?_
        refine va_get (C := RX3) (T := TX3) (N := 21) (ci := 3) hx hb hts hi_X3 hown hK hP (0) (rfl) rfl 4 (by decide) (hts (.fieldLink RX3 20 "GroupSeatsModel" "holds" "[I") (by decide +kernel)) (fun _ h9 => h9) rfl dX3_open_61 ?_
        refine lv_iload_n hx hb dX3_open_64 rfl (lv_at hl 1 rfl) ?_
        refine lv_iconst (v := 0) hx hb dX3_open_65 (by decide) ?_
        refine va_iast hx hb hK hP hD hS (4) 0 (rfl) rfl (vp_in_nI hj (by decide)) dX3_open_66 (fun H locs hP hD hS => ?_)
        refine lv_aload_n hx hb dX3_open_67 rfl (lv_at hl 0 rfl) ?_
        refine va_get (C := RX3) (T := TX3) (N := 21) (ci := 3) hx hb hts hi_X3 hown hK hP (0) (rfl) rfl 5 (by decide) (hts (.fieldLink RX3 23 "GroupSeatsModel" "back" "[I") (by decide +kernel)) (fun _ h9 => h9) rfl dX3_open_68 ?_
        refine lv_iload_n hx hb dX3_open_71 rfl (lv_at hl 1 rfl) ?_
        refine lv_iconst (v := 0) hx hb dX3_open_72 (by decide) ?_
        refine va_iast hx hb hK hP hD hS (5) 0 (rfl) rfl (vp_in_nI hj (by decide)) dX3_open_73 (fun H locs hP hD hS => ?_)
        refine lv_iconst (v := 0) hx hb dX3_open_74 (by decide) ?_
        refine lv_istore_n (lv' := [(3, .int _), (0, .ref _), (1, .int _), (2, .int _)]) hx hb dX3_open_75 rfl hl (by decide) rfl (fun ls hl => ?_)
        exact lp_mopen (n := n) hj (by unfold eOpen; split <;> rename_i h <;> first | rfl | decide | (exfalso; simp only [Int32.le_iff_toInt_le, Int32.lt_iff_toInt_lt, gl_m1, gl_0, gl_1, gl_2, gl_3, gl_5, gl_6, gl_8, gl_9, gl_10, gl_11, gl_20, gl_40, gl_60] at h c12 c22; omega)) I0 20 0 rfl _ (fun _ => 0) rfl rfl H locs hP hD hS ls (lv_sub hl [0, 1, 2, 3] rfl)
      · exact absurd rfl c33
    · simp only [e19, Classical.not_not] at c22
      refine lv_iconst (v := -1) hx hb dX3_open_25 (by decide) ?_
      exact g_iret hx hb hr hlocks (Nat.le_of_ble_eq_true rfl) (Nat.le_of_ble_eq_true rfl) hK hP hD hS dX3_open_26 (by unfold eOpen; split <;> rename_i h <;> first | rfl | decide | (exfalso; simp only [Int32.le_iff_toInt_le, Int32.lt_iff_toInt_lt, gl_m1, gl_0, gl_1, gl_2, gl_3, gl_5, gl_6, gl_8, gl_9, gl_10, gl_11, gl_20, gl_40, gl_60] at h c12 c22; omega))
set_option maxHeartbeats 4000000 in
set_option maxRecDepth 100000 in
/-- the model: shut on a new one -/
theorem m_shut (l : Launch) (D : va_G) (K : gCl) (ma : Nat → Nat) (x : Int32) (sz : Nat)  : gMi l yX3_shut wsX3_shut ({ frames := 2, cells := 0, slots := 0, locals := 80 } : Room) D vwCl (gT K) [.ref (ma 0), .int x] (mN K ma) sz (fun r _ => r = eShut x) 0 0 := by
  refine g_of (cc := cX3_shut) (maxL := 2) (ret := (some .int)) (Qc := fun A => va_Qi (fun r _ => r = eShut x) (gB D vwCl (gT K) A) A) (by decide) rfl (Nat.le_of_ble_eq_true rfl) ?_
  intro p e s m below meth c A ls I hl
  have I0 := I
  obtain ⟨hx, hb, hr, hml, hown, hts, hlocks, hnm, hA, hK, hP, hD, hS⟩ := I
  have hown : s.vm.findClass RX3 = some m.cls := hown
  have hl : lv_has ls 2 [(0, .ref (ma 0)), (1, .int x)] := hl
  have hi_X3 : ∀ w ∈ u_ws RX3 TX3 21, w ∈ wsX3_shut := by decide +kernel
  refine lv_aload_n hx hb dX3_shut_0 rfl (lv_at hl 0 rfl) ?_
  refine lv_iconst (v := 0) hx hb dX3_shut_1 (by decide) ?_
  refine va_put (C := RX3) (T := TX3) (N := 21) (ci := 3) (ty := .int) hx hb hts hi_X3 tyX3 tyX3_ok nmX3 hown hK hP hD hS (0) (rfl) rfl 0 (by decide) (hts (.fieldLink RX3 50 "GroupSeatsModel" "thrown" "I") (by decide +kernel)) (fun _ h9 => h9) rfl (by decide +kernel) rfl rfl (Nat.le_of_ble_eq_true rfl) dX3_shut_2 (fun H locs hP hD hS => ?_)
  have hP : va_P D vwCl (mN K ma) H := hP
  have hD : va_D A (mN K ma) := hD
  refine lv_iload_n hx hb dX3_shut_5 rfl (lv_at hl 1 rfl) ?_
  refine lv_iconst (v := 0) hx hb dX3_shut_6 (by decide) ?_
  refine lv_bipush (v := 9) hx hb dX3_shut_7 (by decide) ?_
  refine g_calli (va_runS (As := [.int _, .int _, .int _]) (rest := []) ⟨hx, hb, hml, hown, hts⟩ (c_in l D K _ x 0 9 _) (va_cwS 3 hts gX3_shut_X3_in rfl rfl rfl (by decide +kernel) ⟨(Nat.le_of_ble_eq_true rfl), (Nat.le_of_ble_eq_true rfl)⟩) (g_preS hK hP hD) rfl rfl hl.1 rfl (lv_room (Nat.le_of_ble_eq_true rfl)) dX3_shut_9 ⟨Nat.zero_le _, Nat.zero_le _⟩) hD hS hA (fun r9 w H locs hw hP hD hS => ?_)
  obtain ⟨rfl, e9⟩ := hw
  refine lv_if_ne (tgt := 17) hx hb dX3_shut_12 (by decide) (fun c12 => ?_) (fun c12 => ?_)
  · simp only [e9, Classical.not_not] at c12
    obtain ⟨j, hj, rfl⟩ := g_ix (n := 10) (M := 10) rfl ⟨c12.1, g_le9 c12.2⟩
    refine lv_aload_n hx hb dX3_shut_17 rfl (lv_at hl 0 rfl) ?_
    refine va_get (C := RX3) (T := TX3) (N := 21) (ci := 3) hx hb hts hi_X3 hown hK hP (0) (rfl) rfl 1 (by decide) (hts (.fieldLink RX3 7 "GroupSeatsModel" "isOpen" "[Z") (by decide +kernel)) (fun _ h9 => h9) rfl dX3_shut_18 ?_
    refine lv_iload_n hx hb dX3_shut_21 rfl (lv_at hl 1 rfl) ?_
    refine va_zald hx hb hK hP (1) 1 (rfl) rfl (vp_in_nI hj (by decide)) dX3_shut_22 ?_
    refine lv_if_eq (tgt := 40) hx hb dX3_shut_23 (by decide) (fun c23 => ?_) (fun c23 => ?_)
    · refine lv_bipush (v := -2) hx hb dX3_shut_40 (by decide) ?_
      exact g_iret hx hb hr hlocks (Nat.le_of_ble_eq_true rfl) (Nat.le_of_ble_eq_true rfl) hK hP hD hS dX3_shut_42 (by unfold eShut; split <;> rename_i h <;> first | rfl | decide | (exfalso; simp only [Int32.le_iff_toInt_le, Int32.lt_iff_toInt_lt, gl_m1, gl_0, gl_1, gl_2, gl_3, gl_5, gl_6, gl_8, gl_9, gl_10, gl_11, gl_20, gl_40, gl_60] at h c12 c23; omega))
    · exact absurd rfl c23
  · simp only [e9, Classical.not_not] at c12
    refine lv_iconst (v := -1) hx hb dX3_shut_15 (by decide) ?_
    exact g_iret hx hb hr hlocks (Nat.le_of_ble_eq_true rfl) (Nat.le_of_ble_eq_true rfl) hK hP hD hS dX3_shut_16 (by unfold eShut; split <;> rename_i h <;> first | rfl | decide | (exfalso; simp only [Int32.le_iff_toInt_le, Int32.lt_iff_toInt_lt, gl_m1, gl_0, gl_1, gl_2, gl_3, gl_5, gl_6, gl_8, gl_9, gl_10, gl_11, gl_20, gl_40, gl_60] at h c12; omega))
set_option maxHeartbeats 4000000 in
set_option maxRecDepth 100000 in
/-- the model: strict on a new one -/
theorem m_strict (l : Launch) (D : va_G) (K : gCl) (ma : Nat → Nat) (x on : Int32) (sz : Nat)  : gMi l yX3_strict wsX3_strict ({ frames := 2, cells := 0, slots := 0, locals := 80 } : Room) D vwCl (gT K) [.ref (ma 0), .int x, .int on] (mN K ma) sz (fun r _ => r = eShut x) 0 0 := by
  refine g_of (cc := cX3_strict) (maxL := 4) (ret := (some .int)) (Qc := fun A => va_Qi (fun r _ => r = eShut x) (gB D vwCl (gT K) A) A) (by decide) rfl (Nat.le_of_ble_eq_true rfl) ?_
  intro p e s m below meth c A ls I hl
  have I0 := I
  obtain ⟨hx, hb, hr, hml, hown, hts, hlocks, hnm, hA, hK, hP, hD, hS⟩ := I
  have hown : s.vm.findClass RX3 = some m.cls := hown
  have hl : lv_has ls 4 [(0, .ref (ma 0)), (1, .int x), (2, .int on)] := hl
  have hi_X3 : ∀ w ∈ u_ws RX3 TX3 21, w ∈ wsX3_strict := by decide +kernel
  refine lv_aload_n hx hb dX3_strict_0 rfl (lv_at hl 0 rfl) ?_
  refine lv_iconst (v := 0) hx hb dX3_strict_1 (by decide) ?_
  refine va_put (C := RX3) (T := TX3) (N := 21) (ci := 3) (ty := .int) hx hb hts hi_X3 tyX3 tyX3_ok nmX3 hown hK hP hD hS (0) (rfl) rfl 0 (by decide) (hts (.fieldLink RX3 50 "GroupSeatsModel" "thrown" "I") (by decide +kernel)) (fun _ h9 => h9) rfl (by decide +kernel) rfl rfl (Nat.le_of_ble_eq_true rfl) dX3_strict_2 (fun H locs hP hD hS => ?_)
  have hP : va_P D vwCl (mN K ma) H := hP
  have hD : va_D A (mN K ma) := hD
  refine lv_iload_n hx hb dX3_strict_5 rfl (lv_at hl 1 rfl) ?_
  refine lv_iconst (v := 0) hx hb dX3_strict_6 (by decide) ?_
  refine lv_bipush (v := 9) hx hb dX3_strict_7 (by decide) ?_
  refine g_calli (va_runS (As := [.int _, .int _, .int _]) (rest := []) ⟨hx, hb, hml, hown, hts⟩ (c_in l D K _ x 0 9 _) (va_cwS 3 hts gX3_strict_X3_in rfl rfl rfl (by decide +kernel) ⟨(Nat.le_of_ble_eq_true rfl), (Nat.le_of_ble_eq_true rfl)⟩) (g_preS hK hP hD) rfl rfl hl.1 rfl (lv_room (Nat.le_of_ble_eq_true rfl)) dX3_strict_9 ⟨Nat.zero_le _, Nat.zero_le _⟩) hD hS hA (fun r9 w H locs hw hP hD hS => ?_)
  obtain ⟨rfl, e9⟩ := hw
  refine lv_if_ne (tgt := 17) hx hb dX3_strict_12 (by decide) (fun c12 => ?_) (fun c12 => ?_)
  · simp only [e9, Classical.not_not] at c12
    obtain ⟨j, hj, rfl⟩ := g_ix (n := 10) (M := 10) rfl ⟨c12.1, g_le9 c12.2⟩
    refine lv_aload_n hx hb dX3_strict_17 rfl (lv_at hl 0 rfl) ?_
    refine va_get (C := RX3) (T := TX3) (N := 21) (ci := 3) hx hb hts hi_X3 hown hK hP (0) (rfl) rfl 1 (by decide) (hts (.fieldLink RX3 7 "GroupSeatsModel" "isOpen" "[Z") (by decide +kernel)) (fun _ h9 => h9) rfl dX3_strict_18 ?_
    refine lv_iload_n hx hb dX3_strict_21 rfl (lv_at hl 1 rfl) ?_
    refine va_zald hx hb hK hP (1) 1 (rfl) rfl (vp_in_nI hj (by decide)) dX3_strict_22 ?_
    refine lv_if_ne (tgt := 29) hx hb dX3_strict_23 (by decide) (fun c23 => ?_) (fun c23 => ?_)
    · exact absurd rfl c23
    · refine lv_bipush (v := -2) hx hb dX3_strict_26 (by decide) ?_
      exact g_iret hx hb hr hlocks (Nat.le_of_ble_eq_true rfl) (Nat.le_of_ble_eq_true rfl) hK hP hD hS dX3_strict_28 (by unfold eShut; split <;> rename_i h <;> first | rfl | decide | (exfalso; simp only [Int32.le_iff_toInt_le, Int32.lt_iff_toInt_lt, gl_m1, gl_0, gl_1, gl_2, gl_3, gl_5, gl_6, gl_8, gl_9, gl_10, gl_11, gl_20, gl_40, gl_60] at h c12 c23; omega))
  · simp only [e9, Classical.not_not] at c12
    refine lv_iconst (v := -1) hx hb dX3_strict_15 (by decide) ?_
    exact g_iret hx hb hr hlocks (Nat.le_of_ble_eq_true rfl) (Nat.le_of_ble_eq_true rfl) hK hP hD hS dX3_strict_16 (by unfold eShut; split <;> rename_i h <;> first | rfl | decide | (exfalso; simp only [Int32.le_iff_toInt_le, Int32.lt_iff_toInt_lt, gl_m1, gl_0, gl_1, gl_2, gl_3, gl_5, gl_6, gl_8, gl_9, gl_10, gl_11, gl_20, gl_40, gl_60] at h c12; omega))
set_option maxHeartbeats 4000000 in
set_option maxRecDepth 100000 in
/-- the model: list on a new one -/
theorem m_list (l : Launch) (D : va_G) (K : gCl) (ma : Nat → Nat) (x : Int32) (sz : Nat)  : gMi l yX3_list wsX3_list ({ frames := 2, cells := 0, slots := 0, locals := 80 } : Room) D vwCl (gT K) [.ref (ma 0), .int x] (mN K ma) sz (fun r _ => r = eList x) 0 0 := by
  refine g_of (cc := cX3_list) (maxL := 2) (ret := (some .int)) (Qc := fun A => va_Qi (fun r _ => r = eList x) (gB D vwCl (gT K) A) A) (by decide) rfl (Nat.le_of_ble_eq_true rfl) ?_
  intro p e s m below meth c A ls I hl
  have I0 := I
  obtain ⟨hx, hb, hr, hml, hown, hts, hlocks, hnm, hA, hK, hP, hD, hS⟩ := I
  have hown : s.vm.findClass RX3 = some m.cls := hown
  have hl : lv_has ls 2 [(0, .ref (ma 0)), (1, .int x)] := hl
  have hi_X3 : ∀ w ∈ u_ws RX3 TX3 21, w ∈ wsX3_list := by decide +kernel
  refine lv_aload_n hx hb dX3_list_0 rfl (lv_at hl 0 rfl) ?_
  refine lv_iconst (v := 0) hx hb dX3_list_1 (by decide) ?_
  refine va_put (C := RX3) (T := TX3) (N := 21) (ci := 3) (ty := .int) hx hb hts hi_X3 tyX3 tyX3_ok nmX3 hown hK hP hD hS (0) (rfl) rfl 0 (by decide) (hts (.fieldLink RX3 50 "GroupSeatsModel" "thrown" "I") (by decide +kernel)) (fun _ h9 => h9) rfl (by decide +kernel) rfl rfl (Nat.le_of_ble_eq_true rfl) dX3_list_2 (fun H locs hP hD hS => ?_)
  have hP : va_P D vwCl (mN K ma) H := hP
  have hD : va_D A (mN K ma) := hD
  refine lv_iload_n hx hb dX3_list_5 rfl (lv_at hl 1 rfl) ?_
  refine lv_iconst (v := 0) hx hb dX3_list_6 (by decide) ?_
  refine lv_bipush (v := 11) hx hb dX3_list_7 (by decide) ?_
  refine g_calli (va_runS (As := [.int _, .int _, .int _]) (rest := []) ⟨hx, hb, hml, hown, hts⟩ (c_in l D K _ x 0 11 _) (va_cwS 3 hts gX3_list_X3_in rfl rfl rfl (by decide +kernel) ⟨(Nat.le_of_ble_eq_true rfl), (Nat.le_of_ble_eq_true rfl)⟩) (g_preS hK hP hD) rfl rfl hl.1 rfl (lv_room (Nat.le_of_ble_eq_true rfl)) dX3_list_9 ⟨Nat.zero_le _, Nat.zero_le _⟩) hD hS hA (fun r9 w H locs hw hP hD hS => ?_)
  obtain ⟨rfl, e9⟩ := hw
  refine lv_if_ne (tgt := 17) hx hb dX3_list_12 (by decide) (fun c12 => ?_) (fun c12 => ?_)
  · simp only [e9, Classical.not_not] at c12
    refine lv_aload_n hx hb dX3_list_17 rfl (lv_at hl 0 rfl) ?_
    refine va_get (C := RX3) (T := TX3) (N := 21) (ci := 3) hx hb hts hi_X3 hown hK hP (0) (rfl) rfl 8 (by decide) (hts (.fieldLink RX3 105 "GroupSeatsModel" "listed" "I") (by decide +kernel)) (fun _ h9 => h9) rfl dX3_list_18 ?_
    refine lv_bipush (v := 6) hx hb dX3_list_21 (by decide) ?_
    refine lv_icmp_ne (tgt := 29) hx hb dX3_list_23 (by decide) (fun c23 => ?_) (fun c23 => ?_)
    · refine lv_aload_n hx hb dX3_list_29 rfl (lv_at hl 0 rfl) ?_
      refine va_get (C := RX3) (T := TX3) (N := 21) (ci := 3) hx hb hts hi_X3 hown hK hP (0) (rfl) rfl 7 (by decide) (hts (.fieldLink RX3 29 "GroupSeatsModel" "list" "[I") (by decide +kernel)) (fun _ h9 => h9) rfl dX3_list_30 ?_
      refine lv_aload_n hx hb dX3_list_33 rfl (lv_at hl 0 rfl) ?_
      refine va_get (C := RX3) (T := TX3) (N := 21) (ci := 3) hx hb hts hi_X3 hown hK hP (0) (rfl) rfl 8 (by decide) (hts (.fieldLink RX3 105 "GroupSeatsModel" "listed" "I") (by decide +kernel)) (fun _ h9 => h9) rfl dX3_list_34 ?_
      refine lv_iload_n hx hb dX3_list_37 rfl (lv_at hl 1 rfl) ?_
      refine va_iast hx hb hK hP hD hS (7) 0 (rfl) rfl (g_in0_6) dX3_list_38 (fun H locs hP hD hS => ?_)
      refine lv_aload_n hx hb dX3_list_39 rfl (lv_at hl 0 rfl) ?_
      refine lv_dup hx hb dX3_list_40 rfl ?_
      refine va_get (C := RX3) (T := TX3) (N := 21) (ci := 3) hx hb hts hi_X3 hown hK hP (0) (rfl) rfl 8 (by decide) (hts (.fieldLink RX3 105 "GroupSeatsModel" "listed" "I") (by decide +kernel)) (fun _ h9 => h9) rfl dX3_list_41 ?_
      refine lv_iconst (v := 1) hx hb dX3_list_44 (by decide) ?_
      refine lv_iadd hx hb dX3_list_45 ?_
      refine va_put (C := RX3) (T := TX3) (N := 21) (ci := 3) (ty := .int) hx hb hts hi_X3 tyX3 tyX3_ok nmX3 hown hK hP hD hS (0) (rfl) rfl 8 (by decide) (hts (.fieldLink RX3 105 "GroupSeatsModel" "listed" "I") (by decide +kernel)) (fun _ h9 => h9) rfl (by decide +kernel) rfl rfl (Nat.le_of_ble_eq_true rfl) dX3_list_46 (fun H locs hP hD hS => ?_)
      refine lv_aload_n hx hb dX3_list_49 rfl (lv_at hl 0 rfl) ?_
      refine va_get (C := RX3) (T := TX3) (N := 21) (ci := 3) hx hb hts hi_X3 hown hK hP (0) (rfl) rfl 8 (by decide) (hts (.fieldLink RX3 105 "GroupSeatsModel" "listed" "I") (by decide +kernel)) (fun _ h9 => h9) rfl dX3_list_50 ?_
      exact g_iret hx hb hr hlocks (Nat.le_of_ble_eq_true rfl) (Nat.le_of_ble_eq_true rfl) hK hP hD hS dX3_list_53 (by unfold eList; split <;> rename_i h <;> first | rfl | decide | (exfalso; simp only [Int32.le_iff_toInt_le, Int32.lt_iff_toInt_lt, gl_m1, gl_0, gl_1, gl_2, gl_3, gl_5, gl_6, gl_8, gl_9, gl_10, gl_11, gl_20, gl_40, gl_60] at h c12 c23; omega))
    · exact absurd c23 (by decide)
  · simp only [e9, Classical.not_not] at c12
    refine lv_iconst (v := -1) hx hb dX3_list_15 (by decide) ?_
    exact g_iret hx hb hr hlocks (Nat.le_of_ble_eq_true rfl) (Nat.le_of_ble_eq_true rfl) hK hP hD hS dX3_list_16 (by unfold eList; split <;> rename_i h <;> first | rfl | decide | (exfalso; simp only [Int32.le_iff_toInt_le, Int32.lt_iff_toInt_lt, gl_m1, gl_0, gl_1, gl_2, gl_3, gl_5, gl_6, gl_8, gl_9, gl_10, gl_11, gl_20, gl_40, gl_60] at h c12; omega))
set_option maxHeartbeats 4000000 in
set_option maxRecDepth 100000 in
/-- the model: book on a new one -/
theorem m_book (l : Launch) (D : va_G) (K : gCl) (ma : Nat → Nat) (n mo : Int32) (sz : Nat)  : gMi l yX3_book wsX3_book ({ frames := 2, cells := 0, slots := 0, locals := 80 } : Room) D vwCl (gT K) [.ref (ma 0), .int n, .int mo] (mN K ma) sz (fun r _ => r = eBook n mo) 0 0 := by
  refine g_of (cc := cX3_book) (maxL := 5) (ret := (some .int)) (Qc := fun A => va_Qi (fun r _ => r = eBook n mo) (gB D vwCl (gT K) A) A) (by decide) rfl (Nat.le_of_ble_eq_true rfl) ?_
  intro p e s m below meth c A ls I hl
  have I0 := I
  obtain ⟨hx, hb, hr, hml, hown, hts, hlocks, hnm, hA, hK, hP, hD, hS⟩ := I
  have hown : s.vm.findClass RX3 = some m.cls := hown
  have hl : lv_has ls 5 [(0, .ref (ma 0)), (1, .int n), (2, .int mo)] := hl
  have hi_X3 : ∀ w ∈ u_ws RX3 TX3 21, w ∈ wsX3_book := by decide +kernel
  refine lv_aload_n hx hb dX3_book_0 rfl (lv_at hl 0 rfl) ?_
  refine lv_iconst (v := 0) hx hb dX3_book_1 (by decide) ?_
  refine va_put (C := RX3) (T := TX3) (N := 21) (ci := 3) (ty := .int) hx hb hts hi_X3 tyX3 tyX3_ok nmX3 hown hK hP hD hS (0) (rfl) rfl 0 (by decide) (hts (.fieldLink RX3 50 "GroupSeatsModel" "thrown" "I") (by decide +kernel)) (fun _ h9 => h9) rfl (by decide +kernel) rfl rfl (Nat.le_of_ble_eq_true rfl) dX3_book_2 (fun H locs hP hD hS => ?_)
  have hP : va_P D vwCl (mN K ma) H := hP
  have hD : va_D A (mN K ma) := hD
  refine lv_iload_n hx hb dX3_book_5 rfl (lv_at hl 1 rfl) ?_
  refine lv_iconst (v := 1) hx hb dX3_book_6 (by decide) ?_
  refine lv_bipush (v := 60) hx hb dX3_book_7 (by decide) ?_
  refine g_calli (va_runS (As := [.int _, .int _, .int _]) (rest := []) ⟨hx, hb, hml, hown, hts⟩ (c_in l D K _ n 1 60 _) (va_cwS 3 hts gX3_book_X3_in rfl rfl rfl (by decide +kernel) ⟨(Nat.le_of_ble_eq_true rfl), (Nat.le_of_ble_eq_true rfl)⟩) (g_preS hK hP hD) rfl rfl hl.1 rfl (lv_room (Nat.le_of_ble_eq_true rfl)) dX3_book_9 ⟨Nat.zero_le _, Nat.zero_le _⟩) hD hS hA (fun r9 w H locs hw hP hD hS => ?_)
  obtain ⟨rfl, e9⟩ := hw
  refine lv_if_eq (tgt := 24) hx hb dX3_book_12 (by decide) (fun c12 => ?_) (fun c12 => ?_)
  · simp only [e9, Classical.not_not] at c12
    refine lv_iconst (v := -1) hx hb dX3_book_24 (by decide) ?_
    exact g_iret hx hb hr hlocks (Nat.le_of_ble_eq_true rfl) (Nat.le_of_ble_eq_true rfl) hK hP hD hS dX3_book_25 (by unfold eBook; split <;> rename_i h <;> first | rfl | decide | (exfalso; simp only [Int32.le_iff_toInt_le, Int32.lt_iff_toInt_lt, gl_m1, gl_0, gl_1, gl_2, gl_3, gl_5, gl_6, gl_8, gl_9, gl_10, gl_11, gl_20, gl_40, gl_60] at h c12; omega))
  · simp only [e9, Classical.not_not] at c12
    refine lv_iload_n hx hb dX3_book_15 rfl (lv_at hl 2 rfl) ?_
    refine lv_iconst (v := 0) hx hb dX3_book_16 (by decide) ?_
    refine lv_iconst (v := 2) hx hb dX3_book_17 (by decide) ?_
    refine g_calli (va_runS (As := [.int _, .int _, .int _]) (rest := []) ⟨hx, hb, hml, hown, hts⟩ (c_in l D K _ mo 0 2 _) (va_cwS 3 hts gX3_book_X3_in rfl rfl rfl (by decide +kernel) ⟨(Nat.le_of_ble_eq_true rfl), (Nat.le_of_ble_eq_true rfl)⟩) (g_preS hK hP hD) rfl rfl hl.1 rfl (lv_room (Nat.le_of_ble_eq_true rfl)) dX3_book_18 ⟨Nat.zero_le _, Nat.zero_le _⟩) hD hS hA (fun r18 w H locs hw hP hD hS => ?_)
    obtain ⟨rfl, e18⟩ := hw
    refine lv_if_ne (tgt := 26) hx hb dX3_book_21 (by decide) (fun c21 => ?_) (fun c21 => ?_)
    · simp only [e18, Classical.not_not] at c21
      refine lv_aload_n hx hb dX3_book_26 rfl (lv_at hl 0 rfl) ?_
      refine va_get (C := RX3) (T := TX3) (N := 21) (ci := 3) hx hb hts hi_X3 hown hK hP (0) (rfl) rfl 8 (by decide) (hts (.fieldLink RX3 105 "GroupSeatsModel" "listed" "I") (by decide +kernel)) (fun _ h9 => h9) rfl dX3_book_27 ?_
      refine lv_if_ne (tgt := 36) hx hb dX3_book_30 (by decide) (fun c30 => ?_) (fun c30 => ?_)
      · exact absurd rfl c30
      · refine lv_bipush (v := -2) hx hb dX3_book_33 (by decide) ?_
        exact g_iret hx hb hr hlocks (Nat.le_of_ble_eq_true rfl) (Nat.le_of_ble_eq_true rfl) hK hP hD hS dX3_book_35 (by unfold eBook; split <;> rename_i h <;> first | rfl | decide | (exfalso; simp only [Int32.le_iff_toInt_le, Int32.lt_iff_toInt_lt, gl_m1, gl_0, gl_1, gl_2, gl_3, gl_5, gl_6, gl_8, gl_9, gl_10, gl_11, gl_20, gl_40, gl_60] at h c12 c21 c30; omega))
    · simp only [e18, Classical.not_not] at c21
      refine lv_iconst (v := -1) hx hb dX3_book_24 (by decide) ?_
      exact g_iret hx hb hr hlocks (Nat.le_of_ble_eq_true rfl) (Nat.le_of_ble_eq_true rfl) hK hP hD hS dX3_book_25 (by unfold eBook; split <;> rename_i h <;> first | rfl | decide | (exfalso; simp only [Int32.le_iff_toInt_le, Int32.lt_iff_toInt_lt, gl_m1, gl_0, gl_1, gl_2, gl_3, gl_5, gl_6, gl_8, gl_9, gl_10, gl_11, gl_20, gl_40, gl_60] at h c12 c21; omega))
set_option maxHeartbeats 4000000 in
set_option maxRecDepth 100000 in
/-- the model: cancel on a new one -/
theorem m_cancel (l : Launch) (D : va_G) (K : gCl) (ma : Nat → Nat) (x : Int32) (sz : Nat)  : gMi l yX3_cancel wsX3_cancel ({ frames := 2, cells := 0, slots := 0, locals := 80 } : Room) D vwCl (gT K) [.ref (ma 0), .int x] (mN K ma) sz (fun r _ => r = -1) 0 0 := by
  refine g_of (cc := cX3_cancel) (maxL := 3) (ret := (some .int)) (Qc := fun A => va_Qi (fun r _ => r = -1) (gB D vwCl (gT K) A) A) (by decide) rfl (Nat.le_of_ble_eq_true rfl) ?_
  intro p e s m below meth c A ls I hl
  have I0 := I
  obtain ⟨hx, hb, hr, hml, hown, hts, hlocks, hnm, hA, hK, hP, hD, hS⟩ := I
  have hown : s.vm.findClass RX3 = some m.cls := hown
  have hl : lv_has ls 3 [(0, .ref (ma 0)), (1, .int x)] := hl
  have hi_X3 : ∀ w ∈ u_ws RX3 TX3 21, w ∈ wsX3_cancel := by decide +kernel
  refine lv_aload_n hx hb dX3_cancel_0 rfl (lv_at hl 0 rfl) ?_
  refine lv_iconst (v := 0) hx hb dX3_cancel_1 (by decide) ?_
  refine va_put (C := RX3) (T := TX3) (N := 21) (ci := 3) (ty := .int) hx hb hts hi_X3 tyX3 tyX3_ok nmX3 hown hK hP hD hS (0) (rfl) rfl 0 (by decide) (hts (.fieldLink RX3 50 "GroupSeatsModel" "thrown" "I") (by decide +kernel)) (fun _ h9 => h9) rfl (by decide +kernel) rfl rfl (Nat.le_of_ble_eq_true rfl) dX3_cancel_2 (fun H locs hP hD hS => ?_)
  have hP : va_P D vwCl (mN K ma) H := hP
  have hD : va_D A (mN K ma) := hD
  refine lv_iload_n hx hb dX3_cancel_5 rfl (lv_at hl 1 rfl) ?_
  refine lv_iconst (v := 0) hx hb dX3_cancel_6 (by decide) ?_
  refine lv_aload_n hx hb dX3_cancel_7 rfl (lv_at hl 0 rfl) ?_
  refine va_get (C := RX3) (T := TX3) (N := 21) (ci := 3) hx hb hts hi_X3 hown hK hP (0) (rfl) rfl 9 (by decide) (hts (.fieldLink RX3 54 "GroupSeatsModel" "bookings" "I") (by decide +kernel)) (fun _ h9 => h9) rfl dX3_cancel_8 ?_
  refine lv_iconst (v := 1) hx hb dX3_cancel_11 (by decide) ?_
  refine lv_isub hx hb dX3_cancel_12 ?_
  refine g_calli (va_runS (As := [.int _, .int _, .int _]) (rest := []) ⟨hx, hb, hml, hown, hts⟩ (c_in l D K _ x 0 (0 - 1) _) (va_cwS 3 hts gX3_cancel_X3_in rfl rfl rfl (by decide +kernel) ⟨(Nat.le_of_ble_eq_true rfl), (Nat.le_of_ble_eq_true rfl)⟩) (g_preS hK hP hD) rfl rfl hl.1 rfl (lv_room (Nat.le_of_ble_eq_true rfl)) dX3_cancel_13 ⟨Nat.zero_le _, Nat.zero_le _⟩) hD hS hA (fun r13 w H locs hw hP hD hS => ?_)
  obtain ⟨rfl, e13⟩ := hw
  refine lv_if_ne (tgt := 21) hx hb dX3_cancel_16 (by decide) (fun c16 => ?_) (fun c16 => ?_)
  · exact absurd (e13.mpr (fun h => by simp only [show (0 : Int32) - 1 = -1 from rfl, Int32.le_iff_toInt_le, Int32.lt_iff_toInt_lt, gl_m1, gl_0, gl_1, gl_2, gl_3, gl_5, gl_6, gl_8, gl_9, gl_10, gl_11, gl_20, gl_40, gl_60] at h; omega)) c16
  · refine lv_iconst (v := -1) hx hb dX3_cancel_19 (by decide) ?_
    exact g_iret hx hb hr hlocks (Nat.le_of_ble_eq_true rfl) (Nat.le_of_ble_eq_true rfl) hK hP hD hS dX3_cancel_20 (rfl)
set_option maxHeartbeats 4000000 in
set_option maxRecDepth 100000 in
/-- the model: leave on a new one -/
theorem m_leave (l : Launch) (D : va_G) (K : gCl) (ma : Nat → Nat) (x : Int32) (sz : Nat)  : gMi l yX3_leave wsX3_leave ({ frames := 2, cells := 0, slots := 0, locals := 80 } : Room) D vwCl (gT K) [.ref (ma 0), .int x] (mN K ma) sz (fun r _ => r = -1) 0 0 := by
  refine g_of (cc := cX3_leave) (maxL := 3) (ret := (some .int)) (Qc := fun A => va_Qi (fun r _ => r = -1) (gB D vwCl (gT K) A) A) (by decide) rfl (Nat.le_of_ble_eq_true rfl) ?_
  intro p e s m below meth c A ls I hl
  have I0 := I
  obtain ⟨hx, hb, hr, hml, hown, hts, hlocks, hnm, hA, hK, hP, hD, hS⟩ := I
  have hown : s.vm.findClass RX3 = some m.cls := hown
  have hl : lv_has ls 3 [(0, .ref (ma 0)), (1, .int x)] := hl
  have hi_X3 : ∀ w ∈ u_ws RX3 TX3 21, w ∈ wsX3_leave := by decide +kernel
  refine lv_aload_n hx hb dX3_leave_0 rfl (lv_at hl 0 rfl) ?_
  refine lv_iconst (v := 0) hx hb dX3_leave_1 (by decide) ?_
  refine va_put (C := RX3) (T := TX3) (N := 21) (ci := 3) (ty := .int) hx hb hts hi_X3 tyX3 tyX3_ok nmX3 hown hK hP hD hS (0) (rfl) rfl 0 (by decide) (hts (.fieldLink RX3 50 "GroupSeatsModel" "thrown" "I") (by decide +kernel)) (fun _ h9 => h9) rfl (by decide +kernel) rfl rfl (Nat.le_of_ble_eq_true rfl) dX3_leave_2 (fun H locs hP hD hS => ?_)
  have hP : va_P D vwCl (mN K ma) H := hP
  have hD : va_D A (mN K ma) := hD
  refine lv_iload_n hx hb dX3_leave_5 rfl (lv_at hl 1 rfl) ?_
  refine lv_iconst (v := 0) hx hb dX3_leave_6 (by decide) ?_
  refine lv_aload_n hx hb dX3_leave_7 rfl (lv_at hl 0 rfl) ?_
  refine va_get (C := RX3) (T := TX3) (N := 21) (ci := 3) hx hb hts hi_X3 hown hK hP (0) (rfl) rfl 14 (by decide) (hts (.fieldLink RX3 84 "GroupSeatsModel" "waits" "I") (by decide +kernel)) (fun _ h9 => h9) rfl dX3_leave_8 ?_
  refine lv_iconst (v := 1) hx hb dX3_leave_11 (by decide) ?_
  refine lv_isub hx hb dX3_leave_12 ?_
  refine g_calli (va_runS (As := [.int _, .int _, .int _]) (rest := []) ⟨hx, hb, hml, hown, hts⟩ (c_in l D K _ x 0 (0 - 1) _) (va_cwS 3 hts gX3_leave_X3_in rfl rfl rfl (by decide +kernel) ⟨(Nat.le_of_ble_eq_true rfl), (Nat.le_of_ble_eq_true rfl)⟩) (g_preS hK hP hD) rfl rfl hl.1 rfl (lv_room (Nat.le_of_ble_eq_true rfl)) dX3_leave_13 ⟨Nat.zero_le _, Nat.zero_le _⟩) hD hS hA (fun r13 w H locs hw hP hD hS => ?_)
  obtain ⟨rfl, e13⟩ := hw
  refine lv_if_ne (tgt := 21) hx hb dX3_leave_16 (by decide) (fun c16 => ?_) (fun c16 => ?_)
  · exact absurd (e13.mpr (fun h => by simp only [show (0 : Int32) - 1 = -1 from rfl, Int32.le_iff_toInt_le, Int32.lt_iff_toInt_lt, gl_m1, gl_0, gl_1, gl_2, gl_3, gl_5, gl_6, gl_8, gl_9, gl_10, gl_11, gl_20, gl_40, gl_60] at h; omega)) c16
  · refine lv_iconst (v := -1) hx hb dX3_leave_19 (by decide) ?_
    exact g_iret hx hb hr hlocks (Nat.le_of_ble_eq_true rfl) (Nat.le_of_ble_eq_true rfl) hK hP hD hS dX3_leave_20 (rfl)
set_option maxHeartbeats 4000000 in
set_option maxRecDepth 100000 in
/-- the model: has on a new one -/
theorem m_has (l : Launch) (D : va_G) (K : gCl) (ma : Nat → Nat) (x y : Int32) (sz : Nat)  : gMi l yX3_has wsX3_has ({ frames := 2, cells := 0, slots := 0, locals := 80 } : Room) D vwCl (gT K) [.ref (ma 0), .int x, .int y] (mN K ma) sz (fun r _ => r = -1) 0 0 := by
  refine g_of (cc := cX3_has) (maxL := 5) (ret := (some .int)) (Qc := fun A => va_Qi (fun r _ => r = -1) (gB D vwCl (gT K) A) A) (by decide) rfl (Nat.le_of_ble_eq_true rfl) ?_
  intro p e s m below meth c A ls I hl
  have I0 := I
  obtain ⟨hx, hb, hr, hml, hown, hts, hlocks, hnm, hA, hK, hP, hD, hS⟩ := I
  have hown : s.vm.findClass RX3 = some m.cls := hown
  have hl : lv_has ls 5 [(0, .ref (ma 0)), (1, .int x), (2, .int y)] := hl
  have hi_X3 : ∀ w ∈ u_ws RX3 TX3 21, w ∈ wsX3_has := by decide +kernel
  refine lv_aload_n hx hb dX3_has_0 rfl (lv_at hl 0 rfl) ?_
  refine lv_iconst (v := 0) hx hb dX3_has_1 (by decide) ?_
  refine va_put (C := RX3) (T := TX3) (N := 21) (ci := 3) (ty := .int) hx hb hts hi_X3 tyX3 tyX3_ok nmX3 hown hK hP hD hS (0) (rfl) rfl 0 (by decide) (hts (.fieldLink RX3 50 "GroupSeatsModel" "thrown" "I") (by decide +kernel)) (fun _ h9 => h9) rfl (by decide +kernel) rfl rfl (Nat.le_of_ble_eq_true rfl) dX3_has_2 (fun H locs hP hD hS => ?_)
  have hP : va_P D vwCl (mN K ma) H := hP
  have hD : va_D A (mN K ma) := hD
  refine lv_iload_n hx hb dX3_has_5 rfl (lv_at hl 1 rfl) ?_
  refine lv_iconst (v := 0) hx hb dX3_has_6 (by decide) ?_
  refine lv_aload_n hx hb dX3_has_7 rfl (lv_at hl 0 rfl) ?_
  refine va_get (C := RX3) (T := TX3) (N := 21) (ci := 3) hx hb hts hi_X3 hown hK hP (0) (rfl) rfl 9 (by decide) (hts (.fieldLink RX3 54 "GroupSeatsModel" "bookings" "I") (by decide +kernel)) (fun _ h9 => h9) rfl dX3_has_8 ?_
  refine lv_iconst (v := 1) hx hb dX3_has_11 (by decide) ?_
  refine lv_isub hx hb dX3_has_12 ?_
  refine g_calli (va_runS (As := [.int _, .int _, .int _]) (rest := []) ⟨hx, hb, hml, hown, hts⟩ (c_in l D K _ x 0 (0 - 1) _) (va_cwS 3 hts gX3_has_X3_in rfl rfl rfl (by decide +kernel) ⟨(Nat.le_of_ble_eq_true rfl), (Nat.le_of_ble_eq_true rfl)⟩) (g_preS hK hP hD) rfl rfl hl.1 rfl (lv_room (Nat.le_of_ble_eq_true rfl)) dX3_has_13 ⟨Nat.zero_le _, Nat.zero_le _⟩) hD hS hA (fun r13 w H locs hw hP hD hS => ?_)
  obtain ⟨rfl, e13⟩ := hw
  refine lv_if_eq (tgt := 29) hx hb dX3_has_16 (by decide) (fun c16 => ?_) (fun c16 => ?_)
  · refine lv_iconst (v := -1) hx hb dX3_has_29 (by decide) ?_
    exact g_iret hx hb hr hlocks (Nat.le_of_ble_eq_true rfl) (Nat.le_of_ble_eq_true rfl) hK hP hD hS dX3_has_30 (rfl)
  · exact absurd (e13.mpr (fun h => by simp only [show (0 : Int32) - 1 = -1 from rfl, Int32.le_iff_toInt_le, Int32.lt_iff_toInt_lt, gl_m1, gl_0, gl_1, gl_2, gl_3, gl_5, gl_6, gl_8, gl_9, gl_10, gl_11, gl_20, gl_40, gl_60] at h; omega)) c16
set_option maxHeartbeats 4000000 in
set_option maxRecDepth 100000 in
/-- the model: waiting on a new one -/
theorem m_waiting (l : Launch) (D : va_G) (K : gCl) (ma : Nat → Nat) (x : Int32) (sz : Nat)  : gMi l yX3_waiting wsX3_waiting ({ frames := 2, cells := 0, slots := 0, locals := 80 } : Room) D vwCl (gT K) [.ref (ma 0), .int x] (mN K ma) sz (fun r _ => r = -8) 0 0 := by
  refine g_of (cc := cX3_waiting) (maxL := 2) (ret := (some .int)) (Qc := fun A => va_Qi (fun r _ => r = -8) (gB D vwCl (gT K) A) A) (by decide) rfl (Nat.le_of_ble_eq_true rfl) ?_
  intro p e s m below meth c A ls I hl
  have I0 := I
  obtain ⟨hx, hb, hr, hml, hown, hts, hlocks, hnm, hA, hK, hP, hD, hS⟩ := I
  have hown : s.vm.findClass RX3 = some m.cls := hown
  have hl : lv_has ls 2 [(0, .ref (ma 0)), (1, .int x)] := hl
  have hi_X3 : ∀ w ∈ u_ws RX3 TX3 21, w ∈ wsX3_waiting := by decide +kernel
  refine lv_aload_n hx hb dX3_waiting_0 rfl (lv_at hl 0 rfl) ?_
  refine lv_iconst (v := 0) hx hb dX3_waiting_1 (by decide) ?_
  refine va_put (C := RX3) (T := TX3) (N := 21) (ci := 3) (ty := .int) hx hb hts hi_X3 tyX3 tyX3_ok nmX3 hown hK hP hD hS (0) (rfl) rfl 0 (by decide) (hts (.fieldLink RX3 50 "GroupSeatsModel" "thrown" "I") (by decide +kernel)) (fun _ h9 => h9) rfl (by decide +kernel) rfl rfl (Nat.le_of_ble_eq_true rfl) dX3_waiting_2 (fun H locs hP hD hS => ?_)
  have hP : va_P D vwCl (mN K ma) H := hP
  have hD : va_D A (mN K ma) := hD
  refine lv_iload_n hx hb dX3_waiting_5 rfl (lv_at hl 1 rfl) ?_
  refine lv_iconst (v := 0) hx hb dX3_waiting_6 (by decide) ?_
  refine lv_aload_n hx hb dX3_waiting_7 rfl (lv_at hl 0 rfl) ?_
  refine va_get (C := RX3) (T := TX3) (N := 21) (ci := 3) hx hb hts hi_X3 hown hK hP (0) (rfl) rfl 14 (by decide) (hts (.fieldLink RX3 84 "GroupSeatsModel" "waits" "I") (by decide +kernel)) (fun _ h9 => h9) rfl dX3_waiting_8 ?_
  refine lv_iconst (v := 1) hx hb dX3_waiting_11 (by decide) ?_
  refine lv_isub hx hb dX3_waiting_12 ?_
  refine g_calli (va_runS (As := [.int _, .int _, .int _]) (rest := []) ⟨hx, hb, hml, hown, hts⟩ (c_in l D K _ x 0 (0 - 1) _) (va_cwS 3 hts gX3_waiting_X3_in rfl rfl rfl (by decide +kernel) ⟨(Nat.le_of_ble_eq_true rfl), (Nat.le_of_ble_eq_true rfl)⟩) (g_preS hK hP hD) rfl rfl hl.1 rfl (lv_room (Nat.le_of_ble_eq_true rfl)) dX3_waiting_13 ⟨Nat.zero_le _, Nat.zero_le _⟩) hD hS hA (fun r13 w H locs hw hP hD hS => ?_)
  obtain ⟨rfl, e13⟩ := hw
  refine lv_if_eq (tgt := 28) hx hb dX3_waiting_16 (by decide) (fun c16 => ?_) (fun c16 => ?_)
  · refine lv_bipush (v := -8) hx hb dX3_waiting_28 (by decide) ?_
    exact g_iret hx hb hr hlocks (Nat.le_of_ble_eq_true rfl) (Nat.le_of_ble_eq_true rfl) hK hP hD hS dX3_waiting_30 (rfl)
  · exact absurd (e13.mpr (fun h => by simp only [show (0 : Int32) - 1 = -1 from rfl, Int32.le_iff_toInt_le, Int32.lt_iff_toInt_lt, gl_m1, gl_0, gl_1, gl_2, gl_3, gl_5, gl_6, gl_8, gl_9, gl_10, gl_11, gl_20, gl_40, gl_60] at h; omega)) c16
set_option maxHeartbeats 4000000 in
set_option maxRecDepth 100000 in
/-- the model: seat on a new one -/
theorem m_seat (l : Launch) (D : va_G) (K : gCl) (ma : Nat → Nat) (x i : Int32) (sz : Nat)  : gMi l yX3_seat wsX3_seat ({ frames := 2, cells := 0, slots := 0, locals := 80 } : Room) D vwCl (gT K) [.ref (ma 0), .int x, .int i] (mN K ma) sz (fun r _ => r = eSeat x i) 0 0 := by
  refine g_of (cc := cX3_seat) (maxL := 3) (ret := (some .int)) (Qc := fun A => va_Qi (fun r _ => r = eSeat x i) (gB D vwCl (gT K) A) A) (by decide) rfl (Nat.le_of_ble_eq_true rfl) ?_
  intro p e s m below meth c A ls I hl
  have I0 := I
  obtain ⟨hx, hb, hr, hml, hown, hts, hlocks, hnm, hA, hK, hP, hD, hS⟩ := I
  have hown : s.vm.findClass RX3 = some m.cls := hown
  have hl : lv_has ls 3 [(0, .ref (ma 0)), (1, .int x), (2, .int i)] := hl
  have hi_X3 : ∀ w ∈ u_ws RX3 TX3 21, w ∈ wsX3_seat := by decide +kernel
  refine lv_aload_n hx hb dX3_seat_0 rfl (lv_at hl 0 rfl) ?_
  refine lv_iconst (v := 0) hx hb dX3_seat_1 (by decide) ?_
  refine va_put (C := RX3) (T := TX3) (N := 21) (ci := 3) (ty := .int) hx hb hts hi_X3 tyX3 tyX3_ok nmX3 hown hK hP hD hS (0) (rfl) rfl 0 (by decide) (hts (.fieldLink RX3 50 "GroupSeatsModel" "thrown" "I") (by decide +kernel)) (fun _ h9 => h9) rfl (by decide +kernel) rfl rfl (Nat.le_of_ble_eq_true rfl) dX3_seat_2 (fun H locs hP hD hS => ?_)
  have hP : va_P D vwCl (mN K ma) H := hP
  have hD : va_D A (mN K ma) := hD
  refine lv_iload_n hx hb dX3_seat_5 rfl (lv_at hl 1 rfl) ?_
  refine lv_iconst (v := 0) hx hb dX3_seat_6 (by decide) ?_
  refine lv_bipush (v := 9) hx hb dX3_seat_7 (by decide) ?_
  refine g_calli (va_runS (As := [.int _, .int _, .int _]) (rest := []) ⟨hx, hb, hml, hown, hts⟩ (c_in l D K _ x 0 9 _) (va_cwS 3 hts gX3_seat_X3_in rfl rfl rfl (by decide +kernel) ⟨(Nat.le_of_ble_eq_true rfl), (Nat.le_of_ble_eq_true rfl)⟩) (g_preS hK hP hD) rfl rfl hl.1 rfl (lv_room (Nat.le_of_ble_eq_true rfl)) dX3_seat_9 ⟨Nat.zero_le _, Nat.zero_le _⟩) hD hS hA (fun r9 w H locs hw hP hD hS => ?_)
  obtain ⟨rfl, e9⟩ := hw
  refine lv_if_eq (tgt := 19) hx hb dX3_seat_12 (by decide) (fun c12 => ?_) (fun c12 => ?_)
  · simp only [e9, Classical.not_not] at c12
    refine lv_iconst (v := -1) hx hb dX3_seat_19 (by decide) ?_
    exact g_iret hx hb hr hlocks (Nat.le_of_ble_eq_true rfl) (Nat.le_of_ble_eq_true rfl) hK hP hD hS dX3_seat_20 (by unfold eSeat; split <;> rename_i h <;> first | rfl | decide | (exfalso; simp only [Int32.le_iff_toInt_le, Int32.lt_iff_toInt_lt, gl_m1, gl_0, gl_1, gl_2, gl_3, gl_5, gl_6, gl_8, gl_9, gl_10, gl_11, gl_20, gl_40, gl_60] at h c12; omega))
  · simp only [e9, Classical.not_not] at c12
    refine lv_iload_n hx hb dX3_seat_15 rfl (lv_at hl 2 rfl) ?_
    refine lv_if_ge (tgt := 21) hx hb dX3_seat_16 (by decide) (fun c16 => ?_) (fun c16 => ?_)
    · obtain ⟨j, hj, rfl⟩ := g_ix (n := 10) (M := 10) rfl ⟨c12.1, g_le9 c12.2⟩
      refine lv_aload_n hx hb dX3_seat_21 rfl (lv_at hl 0 rfl) ?_
      refine va_get (C := RX3) (T := TX3) (N := 21) (ci := 3) hx hb hts hi_X3 hown hK hP (0) (rfl) rfl 1 (by decide) (hts (.fieldLink RX3 7 "GroupSeatsModel" "isOpen" "[Z") (by decide +kernel)) (fun _ h9 => h9) rfl dX3_seat_22 ?_
      refine lv_iload_n hx hb dX3_seat_25 rfl (lv_at hl 1 rfl) ?_
      refine va_zald hx hb hK hP (1) 1 (rfl) rfl (vp_in_nI hj (by decide)) dX3_seat_26 ?_
      refine lv_if_eq (tgt := 40) hx hb dX3_seat_27 (by decide) (fun c27 => ?_) (fun c27 => ?_)
      · refine lv_bipush (v := -2) hx hb dX3_seat_40 (by decide) ?_
        exact g_iret hx hb hr hlocks (Nat.le_of_ble_eq_true rfl) (Nat.le_of_ble_eq_true rfl) hK hP hD hS dX3_seat_42 (by unfold eSeat; split <;> rename_i h <;> first | rfl | decide | (exfalso; simp only [Int32.le_iff_toInt_le, Int32.lt_iff_toInt_lt, gl_m1, gl_0, gl_1, gl_2, gl_3, gl_5, gl_6, gl_8, gl_9, gl_10, gl_11, gl_20, gl_40, gl_60] at h c12 c16 c27; omega))
      · exact absurd rfl c27
    · refine lv_iconst (v := -1) hx hb dX3_seat_19 (by decide) ?_
      exact g_iret hx hb hr hlocks (Nat.le_of_ble_eq_true rfl) (Nat.le_of_ble_eq_true rfl) hK hP hD hS dX3_seat_20 (by unfold eSeat; split <;> rename_i h <;> first | rfl | decide | (exfalso; simp only [Int32.le_iff_toInt_le, Int32.lt_iff_toInt_lt, gl_m1, gl_0, gl_1, gl_2, gl_3, gl_5, gl_6, gl_8, gl_9, gl_10, gl_11, gl_20, gl_40, gl_60] at h c12 c16; omega))
set_option maxHeartbeats 4000000 in
set_option maxRecDepth 100000 in
/-- the model: about on a new one -/
theorem m_about (l : Launch) (D : va_G) (K : gCl) (ma : Nat → Nat) (x k : Int32) (sz : Nat)  : gMi l yX3_about wsX3_about ({ frames := 2, cells := 0, slots := 0, locals := 80 } : Room) D vwCl (gT K) [.ref (ma 0), .int x, .int k] (mN K ma) sz (fun r _ => r = eAbout x k) 0 0 := by
  refine g_of (cc := cX3_about) (maxL := 3) (ret := (some .int)) (Qc := fun A => va_Qi (fun r _ => r = eAbout x k) (gB D vwCl (gT K) A) A) (by decide) rfl (Nat.le_of_ble_eq_true rfl) ?_
  intro p e s m below meth c A ls I hl
  have I0 := I
  obtain ⟨hx, hb, hr, hml, hown, hts, hlocks, hnm, hA, hK, hP, hD, hS⟩ := I
  have hown : s.vm.findClass RX3 = some m.cls := hown
  have hl : lv_has ls 3 [(0, .ref (ma 0)), (1, .int x), (2, .int k)] := hl
  have hi_X3 : ∀ w ∈ u_ws RX3 TX3 21, w ∈ wsX3_about := by decide +kernel
  refine lv_aload_n hx hb dX3_about_0 rfl (lv_at hl 0 rfl) ?_
  refine lv_iconst (v := 0) hx hb dX3_about_1 (by decide) ?_
  refine va_put (C := RX3) (T := TX3) (N := 21) (ci := 3) (ty := .int) hx hb hts hi_X3 tyX3 tyX3_ok nmX3 hown hK hP hD hS (0) (rfl) rfl 0 (by decide) (hts (.fieldLink RX3 50 "GroupSeatsModel" "thrown" "I") (by decide +kernel)) (fun _ h9 => h9) rfl (by decide +kernel) rfl rfl (Nat.le_of_ble_eq_true rfl) dX3_about_2 (fun H locs hP hD hS => ?_)
  have hP : va_P D vwCl (mN K ma) H := hP
  have hD : va_D A (mN K ma) := hD
  refine lv_iload_n hx hb dX3_about_5 rfl (lv_at hl 1 rfl) ?_
  refine lv_iconst (v := 0) hx hb dX3_about_6 (by decide) ?_
  refine lv_bipush (v := 9) hx hb dX3_about_7 (by decide) ?_
  refine g_calli (va_runS (As := [.int _, .int _, .int _]) (rest := []) ⟨hx, hb, hml, hown, hts⟩ (c_in l D K _ x 0 9 _) (va_cwS 3 hts gX3_about_X3_in rfl rfl rfl (by decide +kernel) ⟨(Nat.le_of_ble_eq_true rfl), (Nat.le_of_ble_eq_true rfl)⟩) (g_preS hK hP hD) rfl rfl hl.1 rfl (lv_room (Nat.le_of_ble_eq_true rfl)) dX3_about_9 ⟨Nat.zero_le _, Nat.zero_le _⟩) hD hS hA (fun r9 w H locs hw hP hD hS => ?_)
  obtain ⟨rfl, e9⟩ := hw
  refine lv_if_eq (tgt := 24) hx hb dX3_about_12 (by decide) (fun c12 => ?_) (fun c12 => ?_)
  · simp only [e9, Classical.not_not] at c12
    refine lv_iconst (v := -1) hx hb dX3_about_24 (by decide) ?_
    exact g_iret hx hb hr hlocks (Nat.le_of_ble_eq_true rfl) (Nat.le_of_ble_eq_true rfl) hK hP hD hS dX3_about_25 (by unfold eAbout; split <;> rename_i h <;> first | rfl | decide | (exfalso; simp only [Int32.le_iff_toInt_le, Int32.lt_iff_toInt_lt, gl_m1, gl_0, gl_1, gl_2, gl_3, gl_5, gl_6, gl_8, gl_9, gl_10, gl_11, gl_20, gl_40, gl_60] at h c12; omega))
  · simp only [e9, Classical.not_not] at c12
    refine lv_iload_n hx hb dX3_about_15 rfl (lv_at hl 2 rfl) ?_
    refine lv_iconst (v := 0) hx hb dX3_about_16 (by decide) ?_
    refine lv_iconst (v := 3) hx hb dX3_about_17 (by decide) ?_
    refine g_calli (va_runS (As := [.int _, .int _, .int _]) (rest := []) ⟨hx, hb, hml, hown, hts⟩ (c_in l D K _ k 0 3 _) (va_cwS 3 hts gX3_about_X3_in rfl rfl rfl (by decide +kernel) ⟨(Nat.le_of_ble_eq_true rfl), (Nat.le_of_ble_eq_true rfl)⟩) (g_preS hK hP hD) rfl rfl hl.1 rfl (lv_room (Nat.le_of_ble_eq_true rfl)) dX3_about_18 ⟨Nat.zero_le _, Nat.zero_le _⟩) hD hS hA (fun r18 w H locs hw hP hD hS => ?_)
    obtain ⟨rfl, e18⟩ := hw
    refine lv_if_ne (tgt := 26) hx hb dX3_about_21 (by decide) (fun c21 => ?_) (fun c21 => ?_)
    · simp only [e18, Classical.not_not] at c21
      obtain ⟨j, hj, rfl⟩ := g_ix (n := 10) (M := 10) rfl ⟨c12.1, g_le9 c12.2⟩
      refine lv_aload_n hx hb dX3_about_26 rfl (lv_at hl 0 rfl) ?_
      refine va_get (C := RX3) (T := TX3) (N := 21) (ci := 3) hx hb hts hi_X3 hown hK hP (0) (rfl) rfl 1 (by decide) (hts (.fieldLink RX3 7 "GroupSeatsModel" "isOpen" "[Z") (by decide +kernel)) (fun _ h9 => h9) rfl dX3_about_27 ?_
      refine lv_iload_n hx hb dX3_about_30 rfl (lv_at hl 1 rfl) ?_
      refine va_zald hx hb hK hP (1) 1 (rfl) rfl (vp_in_nI hj (by decide)) dX3_about_31 ?_
      refine lv_if_ne (tgt := 38) hx hb dX3_about_32 (by decide) (fun c32 => ?_) (fun c32 => ?_)
      · exact absurd rfl c32
      · refine lv_bipush (v := -2) hx hb dX3_about_35 (by decide) ?_
        exact g_iret hx hb hr hlocks (Nat.le_of_ble_eq_true rfl) (Nat.le_of_ble_eq_true rfl) hK hP hD hS dX3_about_37 (by unfold eAbout; split <;> rename_i h <;> first | rfl | decide | (exfalso; simp only [Int32.le_iff_toInt_le, Int32.lt_iff_toInt_lt, gl_m1, gl_0, gl_1, gl_2, gl_3, gl_5, gl_6, gl_8, gl_9, gl_10, gl_11, gl_20, gl_40, gl_60] at h c12 c21 c32; omega))
    · simp only [e18, Classical.not_not] at c21
      refine lv_iconst (v := -1) hx hb dX3_about_24 (by decide) ?_
      exact g_iret hx hb hr hlocks (Nat.le_of_ble_eq_true rfl) (Nat.le_of_ble_eq_true rfl) hK hP hD hS dX3_about_25 (by unfold eAbout; split <;> rename_i h <;> first | rfl | decide | (exfalso; simp only [Int32.le_iff_toInt_le, Int32.lt_iff_toInt_lt, gl_m1, gl_0, gl_1, gl_2, gl_3, gl_5, gl_6, gl_8, gl_9, gl_10, gl_11, gl_20, gl_40, gl_60] at h c12 c21; omega))
set_option maxHeartbeats 4000000 in
set_option maxRecDepth 100000 in
theorem lp_mtold {p : Program} {l : Launch} {e : Env} {s : State} {m : MethodId} {args : Array Value} {below : List Frame} {meth : Method} {c : Code} {A : Nat → Prop} {D : va_G} {K : gCl} {ws0 : va_W} {ma : Nat → Nat} {x : Int32}
    (I : gIn p s m meth c A yX3_told wsX3_told cX3_told 4 (some .int) args D vwCl (gT K) ws0) :
    ∀ (k j : Nat), j + k = 10 →
    ∀ (H : Heap) (locs : List Loc), va_P D vwCl (mN K ma) H → va_D A (mN K ma) → va_S A s.heap H locs → ∀ (ls : Array Slot), lv_has ls 4 [(3, .int (nI j)), (2, .int 0), (0, .ref (ma 0)), (1, .int x)] →
    W p l e { frames := 2, cells := 0, slots := 0, locals := 80 } s m args below meth c H locs 0 0 (MQ below (va_Qi (fun r _ => r = eTold x) (gB D vwCl (gT K) A) A) args s 0 0 A) (F0 m 9 ls []) := by
  obtain ⟨hx, hb, hr, hml, hown, hts, hlocks, hnm, hA, hK, -, -, -⟩ := I
  have hown : s.vm.findClass RX3 = some m.cls := hown
  have hi_X3 : ∀ w ∈ u_ws RX3 TX3 21, w ∈ wsX3_told := by decide +kernel
  intro k
  induction k with
  | zero =>
    intro j hj10 H locs hP hD hS ls hl
    have hj : j = 10 := by omega
    subst hj
    refine lv_iload_n hx hb dX3_told_9 rfl (lv_at hl 0 rfl) ?_
    refine lv_bipush (v := 10) hx hb dX3_told_10 (by decide) ?_
    refine lv_icmp_ge (tgt := 38) hx hb dX3_told_12 (by decide) (fun c12 => ?_) (fun c12 => ?_)
    · refine lv_iload_n hx hb dX3_told_38 rfl (lv_at hl 3 rfl) ?_
      rcases g_sw x 5 (by decide) with hk | ⟨i, hi, rfl⟩
      · refine lv_tableOut (tgt := 103) hx hb dX3_told_39 hk (by decide) ?_
        refine lv_iconst (v := -1) hx hb dX3_told_103 (by decide) ?_
        exact g_iret hx hb hr hlocks (Nat.le_of_ble_eq_true rfl) (Nat.le_of_ble_eq_true rfl) hK hP hD hS dX3_told_104 (by unfold eTold; rw [if_neg]; intro h; simp only [Int32.le_iff_toInt_le, Int32.lt_iff_toInt_lt, gl_m1, gl_0, gl_1, gl_2, gl_3, gl_5, gl_6, gl_8, gl_9, gl_10, gl_11, gl_20, gl_40, gl_60] at h; omega)
      · rcases (show i = 0 ∨ i = 1 ∨ i = 2 ∨ i = 3 ∨ i = 4 ∨ i = 5 by omega) with rfl | rfl | rfl | rfl | rfl | rfl
        · refine lv_tableIn (off := 37) (tgt := 76) hx hb dX3_told_39 (by decide) (by decide) rfl (by decide) ?_
          refine lv_aload_n hx hb dX3_told_76 rfl (lv_at hl 2 rfl) ?_
          refine va_get (C := RX3) (T := TX3) (N := 21) (ci := 3) hx hb hts hi_X3 hown hK hP (0) (rfl) rfl 9 (by decide) (hts (.fieldLink RX3 54 "GroupSeatsModel" "bookings" "I") (by decide +kernel)) (fun _ h9 => h9) rfl dX3_told_77 ?_
          exact g_iret hx hb hr hlocks (Nat.le_of_ble_eq_true rfl) (Nat.le_of_ble_eq_true rfl) hK hP hD hS dX3_told_80 (by decide)
        · refine lv_tableIn (off := 42) (tgt := 81) hx hb dX3_told_39 (by decide) (by decide) rfl (by decide) ?_
          refine lv_aload_n hx hb dX3_told_81 rfl (lv_at hl 2 rfl) ?_
          refine va_get (C := RX3) (T := TX3) (N := 21) (ci := 3) hx hb hts hi_X3 hown hK hP (0) (rfl) rfl 14 (by decide) (hts (.fieldLink RX3 84 "GroupSeatsModel" "waits" "I") (by decide +kernel)) (fun _ h9 => h9) rfl dX3_told_82 ?_
          exact g_iret hx hb hr hlocks (Nat.le_of_ble_eq_true rfl) (Nat.le_of_ble_eq_true rfl) hK hP hD hS dX3_told_85 (by decide)
        · refine lv_tableIn (off := 47) (tgt := 86) hx hb dX3_told_39 (by decide) (by decide) rfl (by decide) ?_
          refine lv_aload_n hx hb dX3_told_86 rfl (lv_at hl 2 rfl) ?_
          refine va_get (C := RX3) (T := TX3) (N := 21) (ci := 3) hx hb hts hi_X3 hown hK hP (0) (rfl) rfl 15 (by decide) (hts (.fieldLink RX3 74 "GroupSeatsModel" "most" "I") (by decide +kernel)) (fun _ h9 => h9) rfl dX3_told_87 ?_
          exact g_iret hx hb hr hlocks (Nat.le_of_ble_eq_true rfl) (Nat.le_of_ble_eq_true rfl) hK hP hD hS dX3_told_90 (by decide)
        · refine lv_tableIn (off := 52) (tgt := 91) hx hb dX3_told_39 (by decide) (by decide) rfl (by decide) ?_
          refine lv_aload_n hx hb dX3_told_91 rfl (lv_at hl 2 rfl) ?_
          refine va_get (C := RX3) (T := TX3) (N := 21) (ci := 3) hx hb hts hi_X3 hown hK hP (0) (rfl) rfl 16 (by decide) (hts (.fieldLink RX3 81 "GroupSeatsModel" "failures" "I") (by decide +kernel)) (fun _ h9 => h9) rfl dX3_told_92 ?_
          exact g_iret hx hb hr hlocks (Nat.le_of_ble_eq_true rfl) (Nat.le_of_ble_eq_true rfl) hK hP hD hS dX3_told_95 (by decide)
        · refine lv_tableIn (off := 57) (tgt := 96) hx hb dX3_told_39 (by decide) (by decide) rfl (by decide) ?_
          refine lv_aload_n hx hb dX3_told_96 rfl (lv_at hl 2 rfl) ?_
          refine va_get (C := RX3) (T := TX3) (N := 21) (ci := 3) hx hb hts hi_X3 hown hK hP (0) (rfl) rfl 8 (by decide) (hts (.fieldLink RX3 105 "GroupSeatsModel" "listed" "I") (by decide +kernel)) (fun _ h9 => h9) rfl dX3_told_97 ?_
          exact g_iret hx hb hr hlocks (Nat.le_of_ble_eq_true rfl) (Nat.le_of_ble_eq_true rfl) hK hP hD hS dX3_told_100 (by decide)
        · refine lv_tableIn (off := 62) (tgt := 101) hx hb dX3_told_39 (by decide) (by decide) rfl (by decide) ?_
          refine lv_iload_n hx hb dX3_told_101 rfl (lv_at hl 1 rfl) ?_
          exact g_iret hx hb hr hlocks (Nat.le_of_ble_eq_true rfl) (Nat.le_of_ble_eq_true rfl) hK hP hD hS dX3_told_102 (by decide)
    · exact absurd (by decide) c12
  | succ k ih =>
    intro j hj10 H locs hP hD hS ls hl
    refine lv_iload_n hx hb dX3_told_9 rfl (lv_at hl 0 rfl) ?_
    refine lv_bipush (v := 10) hx hb dX3_told_10 (by decide) ?_
    refine lv_icmp_ge (tgt := 38) hx hb dX3_told_12 (by decide) (fun c12 => ?_) (fun c12 => ?_)
    · exact absurd c12 (nI_ge (b := 10) (by omega) (by decide))
    · have hj : j < 10 := by omega
      refine lv_iload_n hx hb dX3_told_15 rfl (lv_at hl 1 rfl) ?_
      refine lv_aload_n hx hb dX3_told_16 rfl (lv_at hl 2 rfl) ?_
      refine va_get (C := RX3) (T := TX3) (N := 21) (ci := 3) hx hb hts hi_X3 hown hK hP (0) (rfl) rfl 1 (by decide) (hts (.fieldLink RX3 7 "GroupSeatsModel" "isOpen" "[Z") (by decide +kernel)) (fun _ h9 => h9) rfl dX3_told_17 ?_
      refine lv_iload_n hx hb dX3_told_20 rfl (lv_at hl 0 rfl) ?_
      refine va_zald hx hb hK hP (1) 1 (rfl) rfl (vp_in_nI hj (by decide)) dX3_told_21 ?_
      refine lv_if_eq (tgt := 29) hx hb dX3_told_22 (by decide) (fun c22 => ?_) (fun c22 => ?_)
      · refine lv_iconst (v := 0) hx hb dX3_told_29 (by decide) ?_
        refine lv_iadd hx hb dX3_told_30 ?_
        refine lv_istore_n (lv' := [(2, .int _), (3, .int _), (0, .ref _), (1, .int _)]) hx hb dX3_told_31 rfl hl (by decide) rfl (fun ls hl => ?_)
        refine lv_iinc (lv' := [(3, .int _), (2, .int _), (0, .ref _), (1, .int _)]) hx hb dX3_told_32 hl (k := 1) rfl rfl (by decide) rfl (fun ls hl => ?_)
        refine lv_goto (tgt := 9) hx hb dX3_told_35 (by decide) ?_
        rw [g_inc] at hl
        exact ih (j + 1) (by omega) H locs hP hD hS ls (lv_sub hl [0, 1, 2, 3] rfl)
      · exact absurd rfl c22
set_option maxHeartbeats 4000000 in
set_option maxRecDepth 100000 in
/-- the model: told on a new one -/
theorem m_told (l : Launch) (D : va_G) (K : gCl) (ma : Nat → Nat) (x : Int32) (sz : Nat)  : gMi l yX3_told wsX3_told ({ frames := 2, cells := 0, slots := 0, locals := 80 } : Room) D vwCl (gT K) [.ref (ma 0), .int x] (mN K ma) sz (fun r _ => r = eTold x) 0 0 := by
  refine g_of (cc := cX3_told) (maxL := 4) (ret := (some .int)) (Qc := fun A => va_Qi (fun r _ => r = eTold x) (gB D vwCl (gT K) A) A) (by decide) rfl (Nat.le_of_ble_eq_true rfl) ?_
  intro p e s m below meth c A ls I hl
  have I0 := I
  obtain ⟨hx, hb, hr, hml, hown, hts, hlocks, hnm, hA, hK, hP, hD, hS⟩ := I
  have hown : s.vm.findClass RX3 = some m.cls := hown
  have hl : lv_has ls 4 [(0, .ref (ma 0)), (1, .int x)] := hl
  have hi_X3 : ∀ w ∈ u_ws RX3 TX3 21, w ∈ wsX3_told := by decide +kernel
  refine lv_aload_n hx hb dX3_told_0 rfl (lv_at hl 0 rfl) ?_
  refine lv_iconst (v := 0) hx hb dX3_told_1 (by decide) ?_
  refine va_put (C := RX3) (T := TX3) (N := 21) (ci := 3) (ty := .int) hx hb hts hi_X3 tyX3 tyX3_ok nmX3 hown hK hP hD hS (0) (rfl) rfl 0 (by decide) (hts (.fieldLink RX3 50 "GroupSeatsModel" "thrown" "I") (by decide +kernel)) (fun _ h9 => h9) rfl (by decide +kernel) rfl rfl (Nat.le_of_ble_eq_true rfl) dX3_told_2 (fun H locs hP hD hS => ?_)
  have hP : va_P D vwCl (mN K ma) H := hP
  have hD : va_D A (mN K ma) := hD
  refine lv_iconst (v := 0) hx hb dX3_told_5 (by decide) ?_
  refine lv_istore_n (lv' := [(2, .int _), (0, .ref _), (1, .int _)]) hx hb dX3_told_6 rfl hl (by decide) rfl (fun ls hl => ?_)
  refine lv_iconst (v := 0) hx hb dX3_told_7 (by decide) ?_
  refine lv_istore_n (lv' := [(3, .int _), (2, .int _), (0, .ref _), (1, .int _)]) hx hb dX3_told_8 rfl hl (by decide) rfl (fun ls hl => ?_)
  exact lp_mtold I0 10 0 rfl H locs hP hD hS ls (lv_sub hl [0, 1, 2, 3] rfl)
