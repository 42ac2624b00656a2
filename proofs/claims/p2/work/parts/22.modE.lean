set_option maxHeartbeats 4000000 in
set_option maxRecDepth 100000 in
theorem lp_mfill {p : Program} {l : Launch} {e : Env} {s : State} {m : MethodId} {args : Array Value} {below : List Frame} {meth : Method} {c : Code} {A : Nat → Prop} {D : va_G} {K : gCl} {ws0 : va_W} {ma : Nat → Nat} {op st zs ho ba se lx cn pe lt le wa ta : Nat → Int32} {th ll B wt mh fl wl fd : Int32} {r : Nat} {x2 : Int32} {post : Int32 → va_W → Prop} (hr10 : r < 10)
    (I : gIn p s m meth c A yX3_open wsX3_open cX3_open 4 (some .int) args D vwCl (gT K) ws0) (hE : ∀ (g : Nat → Int32) (H : Heap) (locs : List Loc), rowOf g r = gFill (-8) 20 (rowOf se r) → (∀ r2, r2 < 10 → r2 ≠ r → rowOf g r2 = rowOf se r2) → va_P D vwCl (mW K ma th ll B wt mh fl wl fd op st zs ho ba g lx cn pe lt le wa ta) H → va_D A (mW K ma th ll B wt mh fl wl fd op st zs ho ba g lx cn pe lt le wa ta) → va_S A s.heap H locs → ∀ (ls : Array Slot), lv_has ls 4 [(3, .int (nI 20)), (0, .ref (ma 0)), (1, .int (nI r)), (2, .int x2)] → W p l e ({ frames := 7, cells := 0, slots := 0, locals := 260 } : Room) s m args below meth c H locs 0 0 (MQ below (va_Qi (post) (gB D vwCl (gT K) A) A) args s 0 0 A) (F0 m 101 ls [])) :
    ∀ (k : Nat) (i : Nat) (g : Nat → Int32) (H : Heap) (locs : List Loc), i + k = 20 → rowOf g r = gFill (-8) i (rowOf se r) → (∀ r2, r2 < 10 → r2 ≠ r → rowOf g r2 = rowOf se r2) → va_P D vwCl (mW K ma th ll B wt mh fl wl fd op st zs ho ba g lx cn pe lt le wa ta) H → va_D A (mW K ma th ll B wt mh fl wl fd op st zs ho ba g lx cn pe lt le wa ta) → va_S A s.heap H locs →
    ∀ (ls : Array Slot), lv_has ls 4 [(3, .int (nI i)), (0, .ref (ma 0)), (1, .int (nI r)), (2, .int x2)] →
    W p l e ({ frames := 7, cells := 0, slots := 0, locals := 260 } : Room) s m args below meth c H locs 0 0 (MQ below (va_Qi (post) (gB D vwCl (gT K) A) A) args s 0 0 A) (F0 m 76 ls []) := by
  have I0 := I
  obtain ⟨hx, hb, hr, hml, hown, hts, hlocks, hnm, hA, hK, -, -, -⟩ := I
  have hown : s.vm.findClass RX3 = some m.cls := hown
  have hi_X3 : ∀ w ∈ u_ws RX3 TX3 21, w ∈ wsX3_open := by decide +kernel
  intro k
  induction k with
  | zero =>
    intro i g H locs hi hf1 hf2 hP hD hS ls hl
    refine lv_iload_n hx hb dX3_open_76 rfl (lv_at hl 0 rfl) ?_
    refine lv_bipush (v := 20) hx hb dX3_open_77 (by decide) ?_
    refine lv_icmp_ge (tgt := 101) hx hb dX3_open_79 (by decide) (fun c79 => ?_) (fun c79 => ?_)
    · have hi20 : i = 20 := by omega
      subst hi20
      exact hE g H locs hf1 hf2 hP hD hS ls hl
    · exact absurd (nI_le (a := 20) (by omega) (by omega)) c79
  | succ k ih =>
    intro i g H locs hi hf1 hf2 hP hD hS ls hl
    refine lv_iload_n hx hb dX3_open_76 rfl (lv_at hl 0 rfl) ?_
    refine lv_bipush (v := 20) hx hb dX3_open_77 (by decide) ?_
    refine lv_icmp_ge (tgt := 101) hx hb dX3_open_79 (by decide) (fun c79 => ?_) (fun c79 => ?_)
    · exact absurd c79 (nI_ge (b := 20) (by omega) (by decide))
    · refine lv_aload_n hx hb dX3_open_82 rfl (lv_at hl 1 rfl) ?_
      refine va_get (C := RX3) (T := TX3) (N := 21) (ci := 3) hx hb hts hi_X3 hown hK hP (0) (rfl) rfl 6 (by decide) (hts (.fieldLink RX3 26 "GroupSeatsModel" "seats" "[I") (by decide +kernel)) (fun _ h9 => h9) rfl dX3_open_83 ?_
      refine lv_bipush (v := 20) hx hb dX3_open_86 (by decide) ?_
      refine lv_iload_n hx hb dX3_open_88 rfl (lv_at hl 2 rfl) ?_
      refine lv_imul hx hb dX3_open_89 ?_
      refine lv_iload_n hx hb dX3_open_90 rfl (lv_at hl 0 rfl) ?_
      refine lv_iadd hx hb dX3_open_91 ?_
      refine lv_bipush (v := -8) hx hb dX3_open_92 (by decide) ?_
      refine va_iast hx hb hK hP hD hS (6) 0 (rfl) rfl (in_20 hr10 (show i < 20 by omega)) dX3_open_94 (fun H locs hP hD hS => ?_)
      have hP : va_P D vwCl (mW K ma th ll B wt mh fl wl fd op st zs ho ba (upd g (20 * nI r + nI i).toNatClampNeg (-8)) lx cn pe lt le wa ta) H := hP
      have hD : va_D A (mW K ma th ll B wt mh fl wl fd op st zs ho ba (upd g (20 * nI r + nI i).toNatClampNeg (-8)) lx cn pe lt le wa ta) := hD
      refine lv_iinc (lv' := [(3, .int _), (0, .ref _), (1, .int _), (2, .int _)]) hx hb dX3_open_95 hl (k := 0) rfl rfl (by decide) rfl (fun ls hl => ?_)
      refine lv_goto (tgt := 76) hx hb dX3_open_98 (by decide) ?_
      rw [g_inc] at hl
      rw [ix_20 hr10 (by omega)] at hP hD
      exact ih (i + 1) (upd g (20 * r + i) (-8)) H locs (by omega) (by rw [rowOf_upd (by omega), hf1, gFill_upd]) (fun r2 h2 h3 => by rw [rowOf_ne (by omega) h3]; exact hf2 r2 h2 h3) hP hD hS ls (lv_sub hl [0, 1, 2, 3] rfl)
set_option maxHeartbeats 4000000 in
set_option maxRecDepth 100000 in
theorem m_open (l : Launch) (D : va_G) (K : gCl) (ma : Nat → Nat) (op st zs ho ba se lx cn pe lt le wa ta : Nat → Int32) (th wl fd : Int32) (z : Nat → Nat) (sd : Nat → Int32) (ow : Nat → Nat → Int32) (B mh : Nat) (fl : Int32) (q : List Pty) (li : List Nat) (x n : Int32) (sz : Nat) (hz : ∀ i, i < 10 → z i ≤ 20) (hB40 : B ≤ 40) (hq8 : q.length ≤ 8) (hmh6 : mh ≤ 6) (hOR : OR z ow B) (hMS : MS z sd op st zs se ow) (hLc : isL lx li) (hQ : MQr pe lt le q) (hZ : ∀ r, r < 10 → ∀ j, 20 ≤ j → ow r j = 0) : gMi l yX3_open wsX3_open ({ frames := 7, cells := 0, slots := 0, locals := 260 } : Room) D vwCl (gT K) [.ref (ma 0), .int x, .int n] (mW K ma th (nI li.length) (nI B) (nI q.length) (nI mh) fl wl fd op st zs ho ba se lx cn pe lt le wa ta) sz (RM K (ma 0) (opOpen z sd ow cn B q li mh fl x n)) 0 0 := by
  refine g_of (cc := cX3_open) (maxL := 4) (ret := (some .int)) (Qc := fun A => va_Qi (RM K (ma 0) (opOpen z sd ow cn B q li mh fl x n)) (gB D vwCl (gT K) A) A) (by decide) rfl (Nat.le_of_ble_eq_true rfl) ?_
  intro p e s m below meth c A ls I hl
  have I0 := I
  obtain ⟨hx, hb, hr, hml, hown, hts, hlocks, hnm, hA, hK, hP, hD, hS⟩ := I
  have hown : s.vm.findClass RX3 = some m.cls := hown
  have hl : lv_has ls 4 [(0, .ref (ma 0)), (1, .int x), (2, .int n)] := hl
  have hi_X3 : ∀ w ∈ u_ws RX3 TX3 21, w ∈ wsX3_open := by decide +kernel
  refine lv_aload_n hx hb dX3_open_0 rfl (lv_at hl 0 rfl) ?_
  refine lv_iconst (v := 0) hx hb dX3_open_1 (by decide) ?_
  refine va_put (C := RX3) (T := TX3) (N := 21) (ci := 3) (ty := .int) hx hb hts hi_X3 tyX3 tyX3_ok nmX3 hown hK hP hD hS (0) (rfl) rfl 0 (by decide) (hts (.fieldLink RX3 50 "GroupSeatsModel" "thrown" "I") (by decide +kernel)) (fun _ h9 => h9) rfl (by decide +kernel) rfl rfl (Nat.le_of_ble_eq_true rfl) dX3_open_2 (fun H locs hP hD hS => ?_)
  have hP : va_P D vwCl (mW K ma 0 (nI li.length) (nI B) (nI q.length) (nI mh) fl wl fd op st zs ho ba se lx cn pe lt le wa ta) H := hP
  have hD : va_D A (mW K ma 0 (nI li.length) (nI B) (nI q.length) (nI mh) fl wl fd op st zs ho ba se lx cn pe lt le wa ta) := hD
  refine lv_iload_n hx hb dX3_open_5 rfl (lv_at hl 1 rfl) ?_
  refine lv_iconst (v := 0) hx hb dX3_open_6 (by decide) ?_
  refine lv_bipush (v := 9) hx hb dX3_open_7 (by decide) ?_
  refine g_calli (va_runS (As := [.int _, .int _, .int _]) (rest := []) ⟨hx, hb, hml, hown, hts⟩ (c_in l D K _ _ _ _ _) (va_cwS 3 hts gX3_open_X3_in rfl rfl rfl (by decide +kernel) ⟨(Nat.le_of_ble_eq_true rfl), (Nat.le_of_ble_eq_true rfl)⟩) (g_preS hK hP hD) rfl rfl hl.1 rfl (lv_room (Nat.le_of_ble_eq_true rfl)) dX3_open_9 ⟨Nat.zero_le _, Nat.zero_le _⟩) hD hS hA (fun r9 wv H locs hw hP hD hS => ?_)
  obtain ⟨ew, e9⟩ := hw
  rw [ew] at hP hD
  refine lv_if_eq (tgt := 25) hx hb dX3_open_12 (by decide) (fun c12 => ?_) (fun c12 => ?_)
  · simp only [e9, Classical.not_not] at c12
    refine lv_iconst (v := -1) hx hb dX3_open_25 (by decide) ?_
    exact g_iret hx hb hr hlocks (Nat.le_of_ble_eq_true rfl) (Nat.le_of_ble_eq_true rfl) hK hP hD hS dX3_open_26 (by unfold opOpen; rw [if_neg (fun h => by simp only [inRow, Int32.le_iff_toInt_le, Int32.lt_iff_toInt_lt, gl_m1, gl_0, gl_1, gl_2, gl_3, gl_5, gl_6, gl_8, gl_9, gl_10, gl_11, gl_20, gl_40, gl_60] at h c12; omega)]; exact ⟨rfl, ⟨ma, 0, wl, fd, op, st, zs, ho, ba, se, lx, pe, lt, le, wa, ta, rfl, rfl, hMS, hLc, hQ⟩⟩)
  · simp only [e9, Classical.not_not] at c12
    refine lv_iload_n hx hb dX3_open_15 rfl (lv_at hl 2 rfl) ?_
    refine lv_iconst (v := 1) hx hb dX3_open_16 (by decide) ?_
    refine lv_bipush (v := 20) hx hb dX3_open_17 (by decide) ?_
    refine g_calli (va_runS (As := [.int _, .int _, .int _]) (rest := []) ⟨hx, hb, hml, hown, hts⟩ (c_in l D K _ _ _ _ _) (va_cwS 3 hts gX3_open_X3_in rfl rfl rfl (by decide +kernel) ⟨(Nat.le_of_ble_eq_true rfl), (Nat.le_of_ble_eq_true rfl)⟩) (g_preS hK hP hD) rfl rfl hl.1 rfl (lv_room (Nat.le_of_ble_eq_true rfl)) dX3_open_19 ⟨Nat.zero_le _, Nat.zero_le _⟩) hD hS hA (fun r19 wv H locs hw hP hD hS => ?_)
    obtain ⟨ew, e19⟩ := hw
    rw [ew] at hP hD
    refine lv_if_ne (tgt := 27) hx hb dX3_open_22 (by decide) (fun c22 => ?_) (fun c22 => ?_)
    · simp only [e19, Classical.not_not] at c22
      obtain ⟨r, hr10, rfl⟩ := g_ix (n := 10) (M := 10) rfl ⟨c12.1, g_le9 c12.2⟩
      have hrz := hz r hr10
      have hxr : ixN (nI r) = r := ixN_nI (by omega)
      have hmr := hMS r hr10
      refine lv_aload_n hx hb dX3_open_27 rfl (lv_at hl 0 rfl) ?_
      refine va_get (C := RX3) (T := TX3) (N := 21) (ci := 3) hx hb hts hi_X3 hown hK hP (0) (rfl) rfl 1 (by decide) (hts (.fieldLink RX3 7 "GroupSeatsModel" "isOpen" "[Z") (by decide +kernel)) (fun _ h9 => h9) rfl dX3_open_28 ?_
      refine lv_iload_n hx hb dX3_open_31 rfl (lv_at hl 1 rfl) ?_
      refine va_zald hx hb hK hP (1) 1 (rfl) rfl (vp_in_nI (show r < 10 by omega) (by decide)) dX3_open_32 ?_
      refine lv_if_eq (tgt := 39) hx hb dX3_open_33 (by decide) (fun c33 => ?_) (fun c33 => ?_)
      · rw [nI_clamp (n := r) (by omega), hmr.1] at c33
        have hzr : z r = 0 := Classical.not_not.mp (fun q => by rw [if_neg q] at c33; exact absurd c33 (by decide))
        obtain ⟨n1, hn1, hn2, rfl⟩ := g_ix1 (n := 20) (M := 20) rfl (by have := c22.1; simp only [Int32.le_iff_toInt_le, Int32.lt_iff_toInt_lt, gl_m1, gl_0, gl_1, gl_2, gl_3, gl_5, gl_6, gl_8, gl_9, gl_10, gl_11, gl_20, gl_40, gl_60] at this ⊢; omega) c22.2
        refine lv_aload_n hx hb dX3_open_39 rfl (lv_at hl 0 rfl) ?_
        refine va_get (C := RX3) (T := TX3) (N := 21) (ci := 3) hx hb hts hi_X3 hown hK hP (0) (rfl) rfl 1 (by decide) (hts (.fieldLink RX3 7 "GroupSeatsModel" "isOpen" "[Z") (by decide +kernel)) (fun _ h9 => h9) rfl dX3_open_40 ?_
        refine lv_iload_n hx hb dX3_open_43 rfl (lv_at hl 1 rfl) ?_
        refine lv_iconst (v := 1) hx hb dX3_open_44 (by decide) ?_
        refine va_zast hx hb hK hP hD hS (1) 1 (rfl) rfl (vp_in_nI (show r < 10 by omega) (by decide)) dX3_open_45 (fun H locs hP hD hS => ?_)
        have hP : va_P D vwCl (mW K ma 0 (nI li.length) (nI B) (nI q.length) (nI mh) fl wl fd (upd op (nI r).toNatClampNeg (vp_nar .boolean 1)) st zs ho ba se lx cn pe lt le wa ta) H := hP
        have hD : va_D A (mW K ma 0 (nI li.length) (nI B) (nI q.length) (nI mh) fl wl fd (upd op (nI r).toNatClampNeg (vp_nar .boolean 1)) st zs ho ba se lx cn pe lt le wa ta) := hD
        rw [nI_clamp (n := r) (by omega), show vp_nar .boolean 1 = 1 from rfl] at hP hD
        refine lv_aload_n hx hb dX3_open_46 rfl (lv_at hl 0 rfl) ?_
        refine va_get (C := RX3) (T := TX3) (N := 21) (ci := 3) hx hb hts hi_X3 hown hK hP (0) (rfl) rfl 2 (by decide) (hts (.fieldLink RX3 13 "GroupSeatsModel" "isStrict" "[Z") (by decide +kernel)) (fun _ h9 => h9) rfl dX3_open_47 ?_
        refine lv_iload_n hx hb dX3_open_50 rfl (lv_at hl 1 rfl) ?_
        refine lv_iconst (v := 0) hx hb dX3_open_51 (by decide) ?_
        refine va_zast hx hb hK hP hD hS (2) 1 (rfl) rfl (vp_in_nI (show r < 10 by omega) (by decide)) dX3_open_52 (fun H locs hP hD hS => ?_)
        have hP : va_P D vwCl (mW K ma 0 (nI li.length) (nI B) (nI q.length) (nI mh) fl wl fd (upd op r 1) (upd st (nI r).toNatClampNeg (vp_nar .boolean 0)) zs ho ba se lx cn pe lt le wa ta) H := hP
        have hD : va_D A (mW K ma 0 (nI li.length) (nI B) (nI q.length) (nI mh) fl wl fd (upd op r 1) (upd st (nI r).toNatClampNeg (vp_nar .boolean 0)) zs ho ba se lx cn pe lt le wa ta) := hD
        rw [nI_clamp (n := r) (by omega), show vp_nar .boolean 0 = 0 from rfl] at hP hD
        refine lv_aload_n hx hb dX3_open_53 rfl (lv_at hl 0 rfl) ?_
        refine va_get (C := RX3) (T := TX3) (N := 21) (ci := 3) hx hb hts hi_X3 hown hK hP (0) (rfl) rfl 3 (by decide) (hts (.fieldLink RX3 16 "GroupSeatsModel" "size" "[I") (by decide +kernel)) (fun _ h9 => h9) rfl dX3_open_54 ?_
        refine lv_iload_n hx hb dX3_open_57 rfl (lv_at hl 1 rfl) ?_
        refine lv_iload_n hx hb dX3_open_58 rfl (lv_at hl 2 rfl) ?_
        refine va_iast hx hb hK hP hD hS (3) 0 (rfl) rfl (vp_in_nI (show r < 10 by omega) (by decide)) dX3_open_59 (fun H locs hP hD hS => ?_)
        have hP : va_P D vwCl (mW K ma 0 (nI li.length) (nI B) (nI q.length) (nI mh) fl wl fd (upd op r 1) (upd st r 0) (upd zs (nI r).toNatClampNeg (nI n1)) ho ba se lx cn pe lt le wa ta) H := hP
        have hD : va_D A (mW K ma 0 (nI li.length) (nI B) (nI q.length) (nI mh) fl wl fd (upd op r 1) (upd st r 0) (upd zs (nI r).toNatClampNeg (nI n1)) ho ba se lx cn pe lt le wa ta) := hD
        rw [nI_clamp (n := r) (by omega)] at hP hD
        refine lv_aload_n hx hb dX3_open_60 rfl (lv_at hl 0 rfl) ?_
        refine va_get (C := RX3) (T := TX3) (N := 21) (ci := 3) hx hb hts hi_X3 hown hK hP (0) (rfl) rfl 4 (by decide) (hts (.fieldLink RX3 20 "GroupSeatsModel" "holds" "[I") (by decide +kernel)) (fun _ h9 => h9) rfl dX3_open_61 ?_
        refine lv_iload_n hx hb dX3_open_64 rfl (lv_at hl 1 rfl) ?_
        refine lv_iconst (v := 0) hx hb dX3_open_65 (by decide) ?_
        refine va_iast hx hb hK hP hD hS (4) 0 (rfl) rfl (vp_in_nI (show r < 10 by omega) (by decide)) dX3_open_66 (fun H locs hP hD hS => ?_)
        have hP : va_P D vwCl (mW K ma 0 (nI li.length) (nI B) (nI q.length) (nI mh) fl wl fd (upd op r 1) (upd st r 0) (upd zs r (nI n1)) (upd ho (nI r).toNatClampNeg 0) ba se lx cn pe lt le wa ta) H := hP
        have hD : va_D A (mW K ma 0 (nI li.length) (nI B) (nI q.length) (nI mh) fl wl fd (upd op r 1) (upd st r 0) (upd zs r (nI n1)) (upd ho (nI r).toNatClampNeg 0) ba se lx cn pe lt le wa ta) := hD
        rw [nI_clamp (n := r) (by omega)] at hP hD
        refine lv_aload_n hx hb dX3_open_67 rfl (lv_at hl 0 rfl) ?_
        refine va_get (C := RX3) (T := TX3) (N := 21) (ci := 3) hx hb hts hi_X3 hown hK hP (0) (rfl) rfl 5 (by decide) (hts (.fieldLink RX3 23 "GroupSeatsModel" "back" "[I") (by decide +kernel)) (fun _ h9 => h9) rfl dX3_open_68 ?_
        refine lv_iload_n hx hb dX3_open_71 rfl (lv_at hl 1 rfl) ?_
        refine lv_iconst (v := 0) hx hb dX3_open_72 (by decide) ?_
        refine va_iast hx hb hK hP hD hS (5) 0 (rfl) rfl (vp_in_nI (show r < 10 by omega) (by decide)) dX3_open_73 (fun H locs hP hD hS => ?_)
        have hP : va_P D vwCl (mW K ma 0 (nI li.length) (nI B) (nI q.length) (nI mh) fl wl fd (upd op r 1) (upd st r 0) (upd zs r (nI n1)) (upd ho r 0) (upd ba (nI r).toNatClampNeg 0) se lx cn pe lt le wa ta) H := hP
        have hD : va_D A (mW K ma 0 (nI li.length) (nI B) (nI q.length) (nI mh) fl wl fd (upd op r 1) (upd st r 0) (upd zs r (nI n1)) (upd ho r 0) (upd ba (nI r).toNatClampNeg 0) se lx cn pe lt le wa ta) := hD
        rw [nI_clamp (n := r) (by omega)] at hP hD
        refine lv_iconst (v := 0) hx hb dX3_open_74 (by decide) ?_
        refine lv_istore_n (lv' := [(3, .int _), (0, .ref _), (1, .int _), (2, .int _)]) hx hb dX3_open_75 rfl hl (by decide) rfl (fun ls hl => ?_)
        refine lp_mfill (x2 := nI n1) hr10 I0 ?_ 20 0 se _ _ (by omega) (by rw [gFill_0]) (fun _ _ _ => rfl) hP hD hS ls (lv_sub hl [0, 1, 2, 3] rfl)
        intro g H locs hf1 hf2 hP hD hS ls hl
        have hz2 : ∀ i, i < 10 → va_up z r n1 i ≤ 20 := fun i hi => by
          by_cases e : i = r
          · subst e; rw [va_up_self]; omega
          · rw [va_up_ne _ _ e]; exact hz i hi
        rw [gFill_row (hZ r hr10)] at hf1
        have hMS2 := MS_open (n := n1) hMS (by omega) hf1 hf2
        refine lv_aload_n hx hb dX3_open_101 rfl (lv_at hl 1 rfl) ?_
        refine g_calli (va_runV (As := []) (rest := []) ⟨hx, hb, hml, hown, hts⟩ (m_tried l D K ma (upd op r 1) (upd st r 0) (upd zs r (nI n1)) (upd ho r 0) (upd ba r 0) g lx cn pe lt le wa ta 0 (nI li.length) fl wl fd (va_up z r n1) (va_up sd r 0) (va_up ow r (gFill (-8) 20 (ow r))) B mh q _ hz2 hq8 hB40 hmh6 (OR_open hOR) hMS2 hQ) (cwV 0 hts gX3_open_X3_tried rfl rfl rfl (by decide +kernel) ⟨(Nat.le_of_ble_eq_true rfl), (Nat.le_of_ble_eq_true rfl)⟩) (g_preV hK hP hD (ci := 3) (q0 := 0) rfl (rfl)) rfl rfl hl.1 rfl (lv_room (Nat.le_of_ble_eq_true rfl)) dX3_open_102 ⟨Nat.zero_le _, Nat.zero_le _⟩) hD hS hA (fun r102 wv H locs hw hP hD hS => ?_)
        obtain ⟨er, ho1, ba1, se1, ta1, wa1, pe1, lt1, le1, wl1, fd1, ew, hMS3, hQ3⟩ := hw
        rw [ew] at hP hD
        exact g_iret hx hb hr hlocks (Nat.le_of_ble_eq_true rfl) (Nat.le_of_ble_eq_true rfl) hK hP hD hS dX3_open_105 (by unfold opOpen; rw [if_pos ⟨inRow_nI hr10, c22.1, c22.2⟩, hxr, ixN_nI (n := n1) (by omega), if_pos hzr]; exact ⟨er, ma, 0, wl1, fd1, _, _, _, ho1, ba1, se1, lx, pe1, lt1, le1, wa1, ta1, rfl, rfl, hMS3, hLc, hQ3⟩)
      · rw [nI_clamp (n := r) (by omega), hmr.1] at c33
        have hzr : z r ≠ 0 := fun q => c33 (by rw [if_pos q])
        have hzs := hmr.2 hzr
        refine lv_bipush (v := -2) hx hb dX3_open_36 (by decide) ?_
        exact g_iret hx hb hr hlocks (Nat.le_of_ble_eq_true rfl) (Nat.le_of_ble_eq_true rfl) hK hP hD hS dX3_open_38 (by unfold opOpen; rw [if_pos ⟨inRow_nI hr10, c22.1, c22.2⟩, hxr, if_neg hzr]; exact ⟨rfl, ⟨ma, 0, wl, fd, op, st, zs, ho, ba, se, lx, pe, lt, le, wa, ta, rfl, rfl, hMS, hLc, hQ⟩⟩)
    · simp only [e19, Classical.not_not] at c22
      refine lv_iconst (v := -1) hx hb dX3_open_25 (by decide) ?_
      exact g_iret hx hb hr hlocks (Nat.le_of_ble_eq_true rfl) (Nat.le_of_ble_eq_true rfl) hK hP hD hS dX3_open_26 (by unfold opOpen; rw [if_neg (fun h => by simp only [inRow, Int32.le_iff_toInt_le, Int32.lt_iff_toInt_lt, gl_m1, gl_0, gl_1, gl_2, gl_3, gl_5, gl_6, gl_8, gl_9, gl_10, gl_11, gl_20, gl_40, gl_60] at h c12 c22; omega)]; exact ⟨rfl, ⟨ma, 0, wl, fd, op, st, zs, ho, ba, se, lx, pe, lt, le, wa, ta, rfl, rfl, hMS, hLc, hQ⟩⟩)
set_option maxHeartbeats 4000000 in
set_option maxRecDepth 100000 in
theorem lp_mcan {p : Program} {l : Launch} {e : Env} {s : State} {m : MethodId} {args : Array Value} {below : List Frame} {meth : Method} {c : Code} {A : Nat → Prop} {D : va_G} {K : gCl} {ws0 : va_W} {ma : Nat → Nat} {op st zs ho ba se lx cn pe lt le wa ta : Nat → Int32} {th ll B wt mh fl wl fd : Int32} {x : Int32} {post : Int32 → va_W → Prop}
    (I : gIn p s m meth c A yX3_cancel wsX3_cancel cX3_cancel 3 (some .int) args D vwCl (gT K) ws0) (hE : ∀ (H : Heap) (locs : List Loc), va_P D vwCl (mW K ma th ll B wt mh fl wl fd op st zs ho ba (freeV se x 200) lx cn pe lt le wa ta) H → va_D A (mW K ma th ll B wt mh fl wl fd op st zs ho ba (freeV se x 200) lx cn pe lt le wa ta) → va_S A s.heap H locs → ∀ (ls : Array Slot), lv_has ls 3 [(2, .int (nI 200)), (0, .ref (ma 0)), (1, .int x)] → W p l e ({ frames := 7, cells := 0, slots := 0, locals := 260 } : Room) s m args below meth c H locs 0 0 (MQ below (va_Qi (post) (gB D vwCl (gT K) A) A) args s 0 0 A) (F0 m 82 ls [])) :
    ∀ (k : Nat) (i : Nat) (H : Heap) (locs : List Loc), i + k = 200 → va_P D vwCl (mW K ma th ll B wt mh fl wl fd op st zs ho ba (freeV se x i) lx cn pe lt le wa ta) H → va_D A (mW K ma th ll B wt mh fl wl fd op st zs ho ba (freeV se x i) lx cn pe lt le wa ta) → va_S A s.heap H locs →
    ∀ (ls : Array Slot), lv_has ls 3 [(2, .int (nI i)), (0, .ref (ma 0)), (1, .int x)] →
    W p l e ({ frames := 7, cells := 0, slots := 0, locals := 260 } : Room) s m args below meth c H locs 0 0 (MQ below (va_Qi (post) (gB D vwCl (gT K) A) A) args s 0 0 A) (F0 m 42 ls []) := by
  have I0 := I
  obtain ⟨hx, hb, hr, hml, hown, hts, hlocks, hnm, hA, hK, -, -, -⟩ := I
  have hown : s.vm.findClass RX3 = some m.cls := hown
  have hi_X3 : ∀ w ∈ u_ws RX3 TX3 21, w ∈ wsX3_cancel := by decide +kernel
  intro k
  induction k with
  | zero =>
    intro i H locs hi hP hD hS ls hl
    refine lv_iload_n hx hb dX3_cancel_42 rfl (lv_at hl 0 rfl) ?_
    refine lv_sipush (v := 200) hx hb dX3_cancel_43 (by decide) ?_
    refine lv_icmp_ge (tgt := 82) hx hb dX3_cancel_46 (by decide) (fun c46 => ?_) (fun c46 => ?_)
    · have hi2 : i = 200 := by omega
      subst hi2
      exact hE H locs hP hD hS ls hl
    · exact absurd (nI_le (a := 200) (by omega) (by omega)) c46
  | succ k ih =>
    intro i H locs hi hP hD hS ls hl
    refine lv_iload_n hx hb dX3_cancel_42 rfl (lv_at hl 0 rfl) ?_
    refine lv_sipush (v := 200) hx hb dX3_cancel_43 (by decide) ?_
    refine lv_icmp_ge (tgt := 82) hx hb dX3_cancel_46 (by decide) (fun c46 => ?_) (fun c46 => ?_)
    · exact absurd c46 (nI_ge (b := 200) (by omega) (by decide))
    · refine lv_aload_n hx hb dX3_cancel_49 rfl (lv_at hl 1 rfl) ?_
      refine va_get (C := RX3) (T := TX3) (N := 21) (ci := 3) hx hb hts hi_X3 hown hK hP (0) (rfl) rfl 6 (by decide) (hts (.fieldLink RX3 26 "GroupSeatsModel" "seats" "[I") (by decide +kernel)) (fun _ h9 => h9) rfl dX3_cancel_50 ?_
      refine lv_iload_n hx hb dX3_cancel_53 rfl (lv_at hl 0 rfl) ?_
      refine lv_aload_n hx hb dX3_cancel_54 rfl (lv_at hl 1 rfl) ?_
      refine va_get (C := RX3) (T := TX3) (N := 21) (ci := 3) hx hb hts hi_X3 hown hK hP (0) (rfl) rfl 6 (by decide) (hts (.fieldLink RX3 26 "GroupSeatsModel" "seats" "[I") (by decide +kernel)) (fun _ h9 => h9) rfl dX3_cancel_55 ?_
      refine lv_iload_n hx hb dX3_cancel_58 rfl (lv_at hl 0 rfl) ?_
      refine va_iald hx hb hK hP (6) 0 (rfl) rfl (vp_in_nI (show i < 200 by omega) (by decide)) dX3_cancel_59 ?_
      refine lv_iload_n hx hb dX3_cancel_60 rfl (lv_at hl 2 rfl) ?_
      refine lv_icmp_ne (tgt := 69) hx hb dX3_cancel_61 (by decide) (fun c61 => ?_) (fun c61 => ?_)
      · refine lv_aload_n hx hb dX3_cancel_69 rfl (lv_at hl 1 rfl) ?_
        refine va_get (C := RX3) (T := TX3) (N := 21) (ci := 3) hx hb hts hi_X3 hown hK hP (0) (rfl) rfl 6 (by decide) (hts (.fieldLink RX3 26 "GroupSeatsModel" "seats" "[I") (by decide +kernel)) (fun _ h9 => h9) rfl dX3_cancel_70 ?_
        refine lv_iload_n hx hb dX3_cancel_73 rfl (lv_at hl 0 rfl) ?_
        refine va_iald hx hb hK hP (6) 0 (rfl) rfl (vp_in_nI (show i < 200 by omega) (by decide)) dX3_cancel_74 ?_
        refine va_iast hx hb hK hP hD hS (6) 0 (rfl) rfl (vp_in_nI (show i < 200 by omega) (by decide)) dX3_cancel_75 (fun H locs hP hD hS => ?_)
        have hP : va_P D vwCl (mW K ma th ll B wt mh fl wl fd op st zs ho ba (upd (freeV se x i) (nI i).toNatClampNeg ((freeV se x i) (nI i).toNatClampNeg)) lx cn pe lt le wa ta) H := hP
        have hD : va_D A (mW K ma th ll B wt mh fl wl fd op st zs ho ba (upd (freeV se x i) (nI i).toNatClampNeg ((freeV se x i) (nI i).toNatClampNeg)) lx cn pe lt le wa ta) := hD
        refine lv_iinc (lv' := [(2, .int _), (0, .ref _), (1, .int _)]) hx hb dX3_cancel_76 hl (k := 0) rfl rfl (by decide) rfl (fun ls hl => ?_)
        refine lv_goto (tgt := 42) hx hb dX3_cancel_79 (by decide) ?_
        rw [nI_clamp (n := i) (by omega), freeV_at] at c61
        rw [g_inc] at hl
        rw [nI_clamp (n := i) (by omega), upd_id, freeV_no c61] at hP hD
        exact ih (i + 1) H locs (by omega) hP hD hS ls (lv_sub hl [0, 1, 2] rfl)
      · refine lv_bipush (v := -8) hx hb dX3_cancel_64 (by decide) ?_
        refine lv_goto (tgt := 75) hx hb dX3_cancel_66 (by decide) ?_
        refine va_iast hx hb hK hP hD hS (6) 0 (rfl) rfl (vp_in_nI (show i < 200 by omega) (by decide)) dX3_cancel_75 (fun H locs hP hD hS => ?_)
        have hP : va_P D vwCl (mW K ma th ll B wt mh fl wl fd op st zs ho ba (upd (freeV se x i) (nI i).toNatClampNeg (-8)) lx cn pe lt le wa ta) H := hP
        have hD : va_D A (mW K ma th ll B wt mh fl wl fd op st zs ho ba (upd (freeV se x i) (nI i).toNatClampNeg (-8)) lx cn pe lt le wa ta) := hD
        refine lv_iinc (lv' := [(2, .int _), (0, .ref _), (1, .int _)]) hx hb dX3_cancel_76 hl (k := 0) rfl rfl (by decide) rfl (fun ls hl => ?_)
        refine lv_goto (tgt := 42) hx hb dX3_cancel_79 (by decide) ?_
        rw [nI_clamp (n := i) (by omega), freeV_at] at c61
        rw [g_inc] at hl
        rw [nI_clamp (n := i) (by omega), freeV_yes c61] at hP hD
        exact ih (i + 1) H locs (by omega) hP hD hS ls (lv_sub hl [0, 1, 2] rfl)
set_option maxHeartbeats 4000000 in
set_option maxRecDepth 100000 in
theorem m_cancel (l : Launch) (D : va_G) (K : gCl) (ma : Nat → Nat) (op st zs ho ba se lx cn pe lt le wa ta : Nat → Int32) (th wl fd : Int32) (z : Nat → Nat) (sd : Nat → Int32) (ow : Nat → Nat → Int32) (B mh : Nat) (fl : Int32) (q : List Pty) (li : List Nat) (x : Int32) (sz : Nat) (hz : ∀ i, i < 10 → z i ≤ 20) (hB40 : B ≤ 40) (hq8 : q.length ≤ 8) (hmh6 : mh ≤ 6) (hOR : OR z ow B) (hMS : MS z sd op st zs se ow) (hLc : isL lx li) (hQ : MQr pe lt le q) (hTL : TL z ow) : gMi l yX3_cancel wsX3_cancel ({ frames := 7, cells := 0, slots := 0, locals := 260 } : Room) D vwCl (gT K) [.ref (ma 0), .int x] (mW K ma th (nI li.length) (nI B) (nI q.length) (nI mh) fl wl fd op st zs ho ba se lx cn pe lt le wa ta) sz (RM K (ma 0) (opCancel z sd ow cn B q li mh fl x)) 0 0 := by
  refine g_of (cc := cX3_cancel) (maxL := 3) (ret := (some .int)) (Qc := fun A => va_Qi (RM K (ma 0) (opCancel z sd ow cn B q li mh fl x)) (gB D vwCl (gT K) A) A) (by decide) rfl (Nat.le_of_ble_eq_true rfl) ?_
  intro p e s m below meth c A ls I hl
  have I0 := I
  obtain ⟨hx, hb, hr, hml, hown, hts, hlocks, hnm, hA, hK, hP, hD, hS⟩ := I
  have hown : s.vm.findClass RX3 = some m.cls := hown
  have hl : lv_has ls 3 [(0, .ref (ma 0)), (1, .int x)] := hl
  have hi_X3 : ∀ w ∈ u_ws RX3 TX3 21, w ∈ wsX3_cancel := by decide +kernel
  refine lv_aload_n hx hb dX3_cancel_0 rfl (lv_at hl 0 rfl) ?_
  refine lv_iconst (v := 0) hx hb dX3_cancel_1 (by decide) ?_
  refine va_put (C := RX3) (T := TX3) (N := 21) (ci := 3) (ty := .int) hx hb hts hi_X3 tyX3 tyX3_ok nmX3 hown hK hP hD hS (0) (rfl) rfl 0 (by decide) (hts (.fieldLink RX3 50 "GroupSeatsModel" "thrown" "I") (by decide +kernel)) (fun _ h9 => h9) rfl (by decide +kernel) rfl rfl (Nat.le_of_ble_eq_true rfl) dX3_cancel_2 (fun H locs hP hD hS => ?_)
  have hP : va_P D vwCl (mW K ma 0 (nI li.length) (nI B) (nI q.length) (nI mh) fl wl fd op st zs ho ba se lx cn pe lt le wa ta) H := hP
  have hD : va_D A (mW K ma 0 (nI li.length) (nI B) (nI q.length) (nI mh) fl wl fd op st zs ho ba se lx cn pe lt le wa ta) := hD
  refine lv_iload_n hx hb dX3_cancel_5 rfl (lv_at hl 1 rfl) ?_
  refine lv_iconst (v := 0) hx hb dX3_cancel_6 (by decide) ?_
  refine lv_aload_n hx hb dX3_cancel_7 rfl (lv_at hl 0 rfl) ?_
  refine va_get (C := RX3) (T := TX3) (N := 21) (ci := 3) hx hb hts hi_X3 hown hK hP (0) (rfl) rfl 9 (by decide) (hts (.fieldLink RX3 54 "GroupSeatsModel" "bookings" "I") (by decide +kernel)) (fun _ h9 => h9) rfl dX3_cancel_8 ?_
  refine lv_iconst (v := 1) hx hb dX3_cancel_11 (by decide) ?_
  refine lv_isub hx hb dX3_cancel_12 ?_
  refine g_calli (va_runS (As := [.int _, .int _, .int _]) (rest := []) ⟨hx, hb, hml, hown, hts⟩ (c_in l D K _ _ _ _ _) (va_cwS 3 hts gX3_cancel_X3_in rfl rfl rfl (by decide +kernel) ⟨(Nat.le_of_ble_eq_true rfl), (Nat.le_of_ble_eq_true rfl)⟩) (g_preS hK hP hD) rfl rfl hl.1 rfl (lv_room (Nat.le_of_ble_eq_true rfl)) dX3_cancel_13 ⟨Nat.zero_le _, Nat.zero_le _⟩) hD hS hA (fun r13 wv H locs hw hP hD hS => ?_)
  obtain ⟨ew, e13⟩ := hw
  rw [ew] at hP hD
  refine lv_if_ne (tgt := 21) hx hb dX3_cancel_16 (by decide) (fun c16 => ?_) (fun c16 => ?_)
  · simp only [e13, Classical.not_not] at c16
    rw [le_pred (by omega)] at c16
    obtain ⟨b1, hb1, rfl⟩ := g_ixn (n := B) (by omega) c16
    refine lv_aload_n hx hb dX3_cancel_21 rfl (lv_at hl 0 rfl) ?_
    refine va_get (C := RX3) (T := TX3) (N := 21) (ci := 3) hx hb hts hi_X3 hown hK hP (0) (rfl) rfl 10 (by decide) (hts (.fieldLink RX3 32 "GroupSeatsModel" "isCancelled" "[Z") (by decide +kernel)) (fun _ h9 => h9) rfl dX3_cancel_22 ?_
    refine lv_iload_n hx hb dX3_cancel_25 rfl (lv_at hl 1 rfl) ?_
    refine va_zald hx hb hK hP (8) 1 (rfl) rfl (vp_in_nI (show b1 < 40 by omega) (by decide)) dX3_cancel_26 ?_
    refine lv_if_eq (tgt := 33) hx hb dX3_cancel_27 (by decide) (fun c27 => ?_) (fun c27 => ?_)
    · refine lv_aload_n hx hb dX3_cancel_33 rfl (lv_at hl 0 rfl) ?_
      refine va_get (C := RX3) (T := TX3) (N := 21) (ci := 3) hx hb hts hi_X3 hown hK hP (0) (rfl) rfl 10 (by decide) (hts (.fieldLink RX3 32 "GroupSeatsModel" "isCancelled" "[Z") (by decide +kernel)) (fun _ h9 => h9) rfl dX3_cancel_34 ?_
      refine lv_iload_n hx hb dX3_cancel_37 rfl (lv_at hl 1 rfl) ?_
      refine lv_iconst (v := 1) hx hb dX3_cancel_38 (by decide) ?_
      refine va_zast hx hb hK hP hD hS (8) 1 (rfl) rfl (vp_in_nI (show b1 < 40 by omega) (by decide)) dX3_cancel_39 (fun H locs hP hD hS => ?_)
      have hP : va_P D vwCl (mW K ma 0 (nI li.length) (nI B) (nI q.length) (nI mh) fl wl fd op st zs ho ba se lx (upd cn (nI b1).toNatClampNeg (vp_nar .boolean 1)) pe lt le wa ta) H := hP
      have hD : va_D A (mW K ma 0 (nI li.length) (nI B) (nI q.length) (nI mh) fl wl fd op st zs ho ba se lx (upd cn (nI b1).toNatClampNeg (vp_nar .boolean 1)) pe lt le wa ta) := hD
      rw [nI_clamp (n := b1) (by omega), show vp_nar .boolean 1 = 1 from rfl] at hP hD
      refine lv_iconst (v := 0) hx hb dX3_cancel_40 (by decide) ?_
      refine lv_istore_n (lv' := [(2, .int _), (0, .ref _), (1, .int _)]) hx hb dX3_cancel_41 rfl hl (by decide) rfl (fun ls hl => ?_)
      rw [nI_clamp (n := b1) (by omega)] at c27
      refine lp_mcan (x := nI b1) I0 ?_ 200 0 _ _ (by omega) (by rw [freeV_0]; exact hP) (by rw [freeV_0]; exact hD) hS ls (lv_sub hl [0, 1, 2] rfl)
      intro H locs hP hD hS ls hl
      refine lv_aload_n hx hb dX3_cancel_82 rfl (lv_at hl 1 rfl) ?_
      refine g_calli (va_runV (As := []) (rest := []) ⟨hx, hb, hml, hown, hts⟩ (m_tried l D K ma op st zs ho ba (freeV se (nI b1) 200) lx (upd cn b1 1) pe lt le wa ta 0 (nI li.length) fl wl fd z sd (fo z ow (nI b1) 10) B mh q _ hz hq8 hB40 hmh6 (OR_cancel hOR) (MS_cancel hz hTL hMS) hQ) (cwV 0 hts gX3_cancel_X3_tried rfl rfl rfl (by decide +kernel) ⟨(Nat.le_of_ble_eq_true rfl), (Nat.le_of_ble_eq_true rfl)⟩) (g_preV hK hP hD (ci := 3) (q0 := 0) rfl (rfl)) rfl rfl hl.1 rfl (lv_room (Nat.le_of_ble_eq_true rfl)) dX3_cancel_83 ⟨Nat.zero_le _, Nat.zero_le _⟩) hD hS hA (fun r83 wv H locs hw hP hD hS => ?_)
      obtain ⟨er, ho1, ba1, se1, ta1, wa1, pe1, lt1, le1, wl1, fd1, ew, hMS3, hQ3⟩ := hw
      rw [ew] at hP hD
      exact g_iret hx hb hr hlocks (Nat.le_of_ble_eq_true rfl) (Nat.le_of_ble_eq_true rfl) hK hP hD hS dX3_cancel_86 (by unfold opCancel; rw [if_pos c16, ixN_nI (by omega), if_pos c27]; exact ⟨er, ma, 0, wl1, fd1, _, _, _, ho1, ba1, se1, lx, pe1, lt1, le1, wa1, ta1, rfl, rfl, hMS3, hLc, hQ3⟩)
    · refine lv_bipush (v := -2) hx hb dX3_cancel_30 (by decide) ?_
      exact g_iret hx hb hr hlocks (Nat.le_of_ble_eq_true rfl) (Nat.le_of_ble_eq_true rfl) hK hP hD hS dX3_cancel_32 (by rw [nI_clamp (n := b1) (by omega)] at c27; unfold opCancel; rw [if_pos c16, ixN_nI (by omega), if_neg c27]; exact ⟨rfl, ⟨ma, 0, wl, fd, op, st, zs, ho, ba, se, lx, pe, lt, le, wa, ta, rfl, rfl, hMS, hLc, hQ⟩⟩)
  · simp only [e13, Classical.not_not] at c16
    refine lv_iconst (v := -1) hx hb dX3_cancel_19 (by decide) ?_
    exact g_iret hx hb hr hlocks (Nat.le_of_ble_eq_true rfl) (Nat.le_of_ble_eq_true rfl) hK hP hD hS dX3_cancel_20 (by rw [le_pred (by omega)] at c16; unfold opCancel; rw [if_neg c16]; exact ⟨rfl, ⟨ma, 0, wl, fd, op, st, zs, ho, ba, se, lx, pe, lt, le, wa, ta, rfl, rfl, hMS, hLc, hQ⟩⟩)
set_option maxHeartbeats 4000000 in
set_option maxRecDepth 100000 in
theorem lp_bk1 {p : Program} {l : Launch} {e : Env} {s : State} {m : MethodId} {args : Array Value} {below : List Frame} {meth : Method} {c : Code} {A : Nat → Prop} {D : va_G} {K : gCl} {ws0 : va_W} {ma : Nat → Nat} {op st zs ho ba se lx cn pe lt le wa ta : Nat → Int32} {th B wt mh fl fd x1 x2 : Int32} {n : Nat} {post : Int32 → va_W → Prop} (hn : n ≤ 6)
    (I : gIn p s m meth c A yX3_book wsX3_book cX3_book 5 (some .int) args D vwCl (gT K) ws0) (hE : ∀ (H : Heap) (locs : List Loc), va_P D vwCl (mW K ma th (nI n) B wt mh fl (nI n) fd op st zs ho ba se lx cn pe lt le (cpL lx wa n) ta) H → va_D A (mW K ma th (nI n) B wt mh fl (nI n) fd op st zs ho ba se lx cn pe lt le (cpL lx wa n) ta) → va_S A s.heap H locs → ∀ (ls : Array Slot), lv_has ls 5 [(0, .ref (ma 0)), (1, .int x1), (2, .int x2)] → W p l e ({ frames := 7, cells := 0, slots := 0, locals := 260 } : Room) s m args below meth c H locs 0 0 (MQ below (va_Qi (post) (gB D vwCl (gT K) A) A) args s 0 0 A) (F0 m 84 ls [])) :
    ∀ (k : Nat) (i : Nat) (H : Heap) (locs : List Loc), i + k = n → va_P D vwCl (mW K ma th (nI n) B wt mh fl (nI n) fd op st zs ho ba se lx cn pe lt le (cpL lx wa i) ta) H → va_D A (mW K ma th (nI n) B wt mh fl (nI n) fd op st zs ho ba se lx cn pe lt le (cpL lx wa i) ta) → va_S A s.heap H locs →
    ∀ (ls : Array Slot), lv_has ls 5 [(3, .int (nI i)), (0, .ref (ma 0)), (1, .int x1), (2, .int x2)] →
    W p l e ({ frames := 7, cells := 0, slots := 0, locals := 260 } : Room) s m args below meth c H locs 0 0 (MQ below (va_Qi (post) (gB D vwCl (gT K) A) A) args s 0 0 A) (F0 m 58 ls []) := by
  have I0 := I
  obtain ⟨hx, hb, hr, hml, hown, hts, hlocks, hnm, hA, hK, -, -, -⟩ := I
  have hown : s.vm.findClass RX3 = some m.cls := hown
  have hi_X3 : ∀ w ∈ u_ws RX3 TX3 21, w ∈ wsX3_book := by decide +kernel
  intro k
  induction k with
  | zero =>
    intro i H locs hi hP hD hS ls hl
    refine lv_iload_n hx hb dX3_book_58 rfl (lv_at hl 0 rfl) ?_
    refine lv_aload_n hx hb dX3_book_59 rfl (lv_at hl 1 rfl) ?_
    refine va_get (C := RX3) (T := TX3) (N := 21) (ci := 3) hx hb hts hi_X3 hown hK hP (0) (rfl) rfl 8 (by decide) (hts (.fieldLink RX3 105 "GroupSeatsModel" "listed" "I") (by decide +kernel)) (fun _ h9 => h9) rfl dX3_book_60 ?_
    refine lv_icmp_ge (tgt := 84) hx hb dX3_book_63 (by decide) (fun c63 => ?_) (fun c63 => ?_)
    · have hin : i = n := by omega
      subst hin
      exact hE H locs hP hD hS ls (lv_sub hl [1, 2, 3] rfl)
    · exact absurd (nI_le (by omega) (by omega)) c63
  | succ k ih =>
    intro i H locs hi hP hD hS ls hl
    refine lv_iload_n hx hb dX3_book_58 rfl (lv_at hl 0 rfl) ?_
    refine lv_aload_n hx hb dX3_book_59 rfl (lv_at hl 1 rfl) ?_
    refine va_get (C := RX3) (T := TX3) (N := 21) (ci := 3) hx hb hts hi_X3 hown hK hP (0) (rfl) rfl 8 (by decide) (hts (.fieldLink RX3 105 "GroupSeatsModel" "listed" "I") (by decide +kernel)) (fun _ h9 => h9) rfl dX3_book_60 ?_
    refine lv_icmp_ge (tgt := 84) hx hb dX3_book_63 (by decide) (fun c63 => ?_) (fun c63 => ?_)
    · exact absurd c63 (nI_ge (by omega) (by omega))
    · refine lv_aload_n hx hb dX3_book_66 rfl (lv_at hl 1 rfl) ?_
      refine va_get (C := RX3) (T := TX3) (N := 21) (ci := 3) hx hb hts hi_X3 hown hK hP (0) (rfl) rfl 17 (by decide) (hts (.fieldLink RX3 44 "GroupSeatsModel" "way" "[I") (by decide +kernel)) (fun _ h9 => h9) rfl dX3_book_67 ?_
      refine lv_iload_n hx hb dX3_book_70 rfl (lv_at hl 0 rfl) ?_
      refine lv_aload_n hx hb dX3_book_71 rfl (lv_at hl 1 rfl) ?_
      refine va_get (C := RX3) (T := TX3) (N := 21) (ci := 3) hx hb hts hi_X3 hown hK hP (0) (rfl) rfl 7 (by decide) (hts (.fieldLink RX3 29 "GroupSeatsModel" "list" "[I") (by decide +kernel)) (fun _ h9 => h9) rfl dX3_book_72 ?_
      refine lv_iload_n hx hb dX3_book_75 rfl (lv_at hl 0 rfl) ?_
      refine va_iald hx hb hK hP (7) 0 (rfl) rfl (vp_in_nI (show i < 6 by omega) (by decide)) dX3_book_76 ?_
      refine va_iast hx hb hK hP hD hS (12) 0 (rfl) rfl (vp_in_nI (show i < 6 by omega) (by decide)) dX3_book_77 (fun H locs hP hD hS => ?_)
      have hP : va_P D vwCl (mW K ma th (nI n) B wt mh fl (nI n) fd op st zs ho ba se lx cn pe lt le (upd (cpL lx wa i) (nI i).toNatClampNeg (lx (nI i).toNatClampNeg)) ta) H := hP
      have hD : va_D A (mW K ma th (nI n) B wt mh fl (nI n) fd op st zs ho ba se lx cn pe lt le (upd (cpL lx wa i) (nI i).toNatClampNeg (lx (nI i).toNatClampNeg)) ta) := hD
      refine lv_iinc (lv' := [(3, .int _), (0, .ref _), (1, .int _), (2, .int _)]) hx hb dX3_book_78 hl (k := 0) rfl rfl (by decide) rfl (fun ls hl => ?_)
      refine lv_goto (tgt := 58) hx hb dX3_book_81 (by decide) ?_
      rw [g_inc] at hl
      rw [nI_clamp (n := i) (by omega), cpL_up] at hP hD
      exact ih (i + 1) H locs (by omega) hP hD hS ls (lv_sub hl [0, 1, 2, 3] rfl)
set_option maxHeartbeats 4000000 in
set_option maxRecDepth 100000 in
theorem lp_bk2 {p : Program} {l : Launch} {e : Env} {s : State} {m : MethodId} {args : Array Value} {below : List Frame} {meth : Method} {c : Code} {A : Nat → Prop} {D : va_G} {K : gCl} {ws0 : va_W} {ma : Nat → Nat} {op st zs ho ba se lx cn pe lt le wa ta : Nat → Int32} {th ll B mh fl fd x1 x2 x3 : Int32} {n k0 : Nat} {post : Int32 → va_W → Prop} (hn : n ≤ 6) (hk0 : k0 < 8)
    (I : gIn p s m meth c A yX3_book wsX3_book cX3_book 5 (some .int) args D vwCl (gT K) ws0) (hE : ∀ (H : Heap) (locs : List Loc), va_P D vwCl (mW K ma th ll B (nI k0) mh fl (nI n) fd op st zs ho ba se lx cn pe (cpQ wa lt k0 n) le wa ta) H → va_D A (mW K ma th ll B (nI k0) mh fl (nI n) fd op st zs ho ba se lx cn pe (cpQ wa lt k0 n) le wa ta) → va_S A s.heap H locs → ∀ (ls : Array Slot), lv_has ls 5 [(0, .ref (ma 0))] → W p l e ({ frames := 7, cells := 0, slots := 0, locals := 260 } : Room) s m args below meth c H locs 0 0 (MQ below (va_Qi (post) (gB D vwCl (gT K) A) A) args s 0 0 A) (F0 m 181 ls [])) :
    ∀ (k : Nat) (i : Nat) (H : Heap) (locs : List Loc), i + k = n → va_P D vwCl (mW K ma th ll B (nI k0) mh fl (nI n) fd op st zs ho ba se lx cn pe (cpQ wa lt k0 i) le wa ta) H → va_D A (mW K ma th ll B (nI k0) mh fl (nI n) fd op st zs ho ba se lx cn pe (cpQ wa lt k0 i) le wa ta) → va_S A s.heap H locs →
    ∀ (ls : Array Slot), lv_has ls 5 [(4, .int (nI i)), (0, .ref (ma 0)), (1, .int x1), (2, .int x2), (3, .int x3)] →
    W p l e ({ frames := 7, cells := 0, slots := 0, locals := 260 } : Room) s m args below meth c H locs 0 0 (MQ below (va_Qi (post) (gB D vwCl (gT K) A) A) args s 0 0 A) (F0 m 144 ls []) := by
  have I0 := I
  obtain ⟨hx, hb, hr, hml, hown, hts, hlocks, hnm, hA, hK, -, -, -⟩ := I
  have hown : s.vm.findClass RX3 = some m.cls := hown
  have hi_X3 : ∀ w ∈ u_ws RX3 TX3 21, w ∈ wsX3_book := by decide +kernel
  intro k
  induction k with
  | zero =>
    intro i H locs hi hP hD hS ls hl
    refine lv_iload hx hb dX3_book_144 (lv_at hl 0 rfl) ?_
    refine lv_aload_n hx hb dX3_book_146 rfl (lv_at hl 1 rfl) ?_
    refine va_get (C := RX3) (T := TX3) (N := 21) (ci := 3) hx hb hts hi_X3 hown hK hP (0) (rfl) rfl 18 (by decide) (hts (.fieldLink RX3 68 "GroupSeatsModel" "wayLong" "I") (by decide +kernel)) (fun _ h9 => h9) rfl dX3_book_147 ?_
    refine lv_icmp_ge (tgt := 181) hx hb dX3_book_150 (by decide) (fun c150 => ?_) (fun c150 => ?_)
    · have hin : i = n := by omega
      subst hin
      exact hE H locs hP hD hS ls (lv_sub hl [1] rfl)
    · exact absurd (nI_le (by omega) (by omega)) c150
  | succ k ih =>
    intro i H locs hi hP hD hS ls hl
    refine lv_iload hx hb dX3_book_144 (lv_at hl 0 rfl) ?_
    refine lv_aload_n hx hb dX3_book_146 rfl (lv_at hl 1 rfl) ?_
    refine va_get (C := RX3) (T := TX3) (N := 21) (ci := 3) hx hb hts hi_X3 hown hK hP (0) (rfl) rfl 18 (by decide) (hts (.fieldLink RX3 68 "GroupSeatsModel" "wayLong" "I") (by decide +kernel)) (fun _ h9 => h9) rfl dX3_book_147 ?_
    refine lv_icmp_ge (tgt := 181) hx hb dX3_book_150 (by decide) (fun c150 => ?_) (fun c150 => ?_)
    · exact absurd c150 (nI_ge (by omega) (by omega))
    · refine lv_aload_n hx hb dX3_book_153 rfl (lv_at hl 1 rfl) ?_
      refine va_get (C := RX3) (T := TX3) (N := 21) (ci := 3) hx hb hts hi_X3 hown hK hP (0) (rfl) rfl 12 (by decide) (hts (.fieldLink RX3 38 "GroupSeatsModel" "lists" "[I") (by decide +kernel)) (fun _ h9 => h9) rfl dX3_book_154 ?_
      refine lv_bipush (v := 6) hx hb dX3_book_157 (by decide) ?_
      refine lv_aload_n hx hb dX3_book_159 rfl (lv_at hl 1 rfl) ?_
      refine va_get (C := RX3) (T := TX3) (N := 21) (ci := 3) hx hb hts hi_X3 hown hK hP (0) (rfl) rfl 14 (by decide) (hts (.fieldLink RX3 84 "GroupSeatsModel" "waits" "I") (by decide +kernel)) (fun _ h9 => h9) rfl dX3_book_160 ?_
      refine lv_imul hx hb dX3_book_163 ?_
      refine lv_iload hx hb dX3_book_164 (lv_at hl 0 rfl) ?_
      refine lv_iadd hx hb dX3_book_166 ?_
      refine lv_aload_n hx hb dX3_book_167 rfl (lv_at hl 1 rfl) ?_
      refine va_get (C := RX3) (T := TX3) (N := 21) (ci := 3) hx hb hts hi_X3 hown hK hP (0) (rfl) rfl 17 (by decide) (hts (.fieldLink RX3 44 "GroupSeatsModel" "way" "[I") (by decide +kernel)) (fun _ h9 => h9) rfl dX3_book_168 ?_
      refine lv_iload hx hb dX3_book_171 (lv_at hl 0 rfl) ?_
      refine va_iald hx hb hK hP (12) 0 (rfl) rfl (vp_in_nI (show i < 6 by omega) (by decide)) dX3_book_173 ?_
      refine va_iast hx hb hK hP hD hS (10) 0 (rfl) rfl (in_6 (by omega) (by omega)) dX3_book_174 (fun H locs hP hD hS => ?_)
      have hP : va_P D vwCl (mW K ma th ll B (nI k0) mh fl (nI n) fd op st zs ho ba se lx cn pe (upd (cpQ wa lt k0 i) (6 * nI k0 + nI i).toNatClampNeg (wa (nI i).toNatClampNeg)) le wa ta) H := hP
      have hD : va_D A (mW K ma th ll B (nI k0) mh fl (nI n) fd op st zs ho ba se lx cn pe (upd (cpQ wa lt k0 i) (6 * nI k0 + nI i).toNatClampNeg (wa (nI i).toNatClampNeg)) le wa ta) := hD
      refine lv_iinc (lv' := [(4, .int _), (0, .ref _), (1, .int _), (2, .int _), (3, .int _)]) hx hb dX3_book_175 hl (k := 0) rfl rfl (by decide) rfl (fun ls hl => ?_)
      refine lv_goto (tgt := 144) hx hb dX3_book_178 (by decide) ?_
      rw [g_inc] at hl
      rw [ix_6 (by omega) (by omega), nI_clamp (n := i) (by omega), cpQ_up] at hP hD
      exact ih (i + 1) H locs (by omega) hP hD hS ls (lv_sub hl [0, 1, 2, 3, 4] rfl)
set_option maxHeartbeats 4000000 in
set_option maxRecDepth 100000 in
theorem m_book (l : Launch) (D : va_G) (K : gCl) (ma : Nat → Nat) (op st zs ho ba se lx cn pe lt le wa ta : Nat → Int32) (th wl fd : Int32) (z : Nat → Nat) (sd : Nat → Int32) (ow : Nat → Nat → Int32) (B mh : Nat) (fl : Int32) (q : List Pty) (li : List Nat) (n mo : Int32) (sz : Nat) (hz : ∀ i, i < 10 → z i ≤ 20) (hB40 : B ≤ 40) (hq8 : q.length ≤ 8) (hmh6 : mh ≤ 6) (hOR : OR z ow B) (hMS : MS z sd op st zs se ow) (hLc : isL lx li) (hQ : MQr pe lt le q) : gMi l yX3_book wsX3_book ({ frames := 7, cells := 0, slots := 0, locals := 260 } : Room) D vwCl (gT K) [.ref (ma 0), .int n, .int mo] (mW K ma th (nI li.length) (nI B) (nI q.length) (nI mh) fl wl fd op st zs ho ba se lx cn pe lt le wa ta) sz (RM K (ma 0) (opBook z sd ow cn B q li mh fl n mo)) 0 0 := by
  refine g_of (cc := cX3_book) (maxL := 5) (ret := (some .int)) (Qc := fun A => va_Qi (RM K (ma 0) (opBook z sd ow cn B q li mh fl n mo)) (gB D vwCl (gT K) A) A) (by decide) rfl (Nat.le_of_ble_eq_true rfl) ?_
  intro p e s m below meth c A ls I hl
  have I0 := I
  obtain ⟨hx, hb, hr, hml, hown, hts, hlocks, hnm, hA, hK, hP, hD, hS⟩ := I
  have hown : s.vm.findClass RX3 = some m.cls := hown
  have hl : lv_has ls 5 [(0, .ref (ma 0)), (1, .int n), (2, .int mo)] := hl
  have hi_X3 : ∀ w ∈ u_ws RX3 TX3 21, w ∈ wsX3_book := by decide +kernel
  have hLc6 := hLc.1
  refine lv_aload_n hx hb dX3_book_0 rfl (lv_at hl 0 rfl) ?_
  refine lv_iconst (v := 0) hx hb dX3_book_1 (by decide) ?_
  refine va_put (C := RX3) (T := TX3) (N := 21) (ci := 3) (ty := .int) hx hb hts hi_X3 tyX3 tyX3_ok nmX3 hown hK hP hD hS (0) (rfl) rfl 0 (by decide) (hts (.fieldLink RX3 50 "GroupSeatsModel" "thrown" "I") (by decide +kernel)) (fun _ h9 => h9) rfl (by decide +kernel) rfl rfl (Nat.le_of_ble_eq_true rfl) dX3_book_2 (fun H locs hP hD hS => ?_)
  have hP : va_P D vwCl (mW K ma 0 (nI li.length) (nI B) (nI q.length) (nI mh) fl wl fd op st zs ho ba se lx cn pe lt le wa ta) H := hP
  have hD : va_D A (mW K ma 0 (nI li.length) (nI B) (nI q.length) (nI mh) fl wl fd op st zs ho ba se lx cn pe lt le wa ta) := hD
  refine lv_iload_n hx hb dX3_book_5 rfl (lv_at hl 1 rfl) ?_
  refine lv_iconst (v := 1) hx hb dX3_book_6 (by decide) ?_
  refine lv_bipush (v := 60) hx hb dX3_book_7 (by decide) ?_
  refine g_calli (va_runS (As := [.int _, .int _, .int _]) (rest := []) ⟨hx, hb, hml, hown, hts⟩ (c_in l D K _ _ _ _ _) (va_cwS 3 hts gX3_book_X3_in rfl rfl rfl (by decide +kernel) ⟨(Nat.le_of_ble_eq_true rfl), (Nat.le_of_ble_eq_true rfl)⟩) (g_preS hK hP hD) rfl rfl hl.1 rfl (lv_room (Nat.le_of_ble_eq_true rfl)) dX3_book_9 ⟨Nat.zero_le _, Nat.zero_le _⟩) hD hS hA (fun r9 wv H locs hw hP hD hS => ?_)
  obtain ⟨ew, e9⟩ := hw
  rw [ew] at hP hD
  refine lv_if_eq (tgt := 24) hx hb dX3_book_12 (by decide) (fun c12 => ?_) (fun c12 => ?_)
  · simp only [e9, Classical.not_not] at c12
    refine lv_iconst (v := -1) hx hb dX3_book_24 (by decide) ?_
    exact g_iret hx hb hr hlocks (Nat.le_of_ble_eq_true rfl) (Nat.le_of_ble_eq_true rfl) hK hP hD hS dX3_book_25 (by unfold opBook; rw [if_neg (fun h => by simp only [inRow, Int32.le_iff_toInt_le, Int32.lt_iff_toInt_lt, gl_m1, gl_0, gl_1, gl_2, gl_3, gl_5, gl_6, gl_8, gl_9, gl_10, gl_11, gl_20, gl_40, gl_60] at h c12; omega)]; exact ⟨rfl, ⟨ma, 0, wl, fd, op, st, zs, ho, ba, se, lx, pe, lt, le, wa, ta, rfl, rfl, hMS, hLc, hQ⟩⟩)
  · simp only [e9, Classical.not_not] at c12
    refine lv_iload_n hx hb dX3_book_15 rfl (lv_at hl 2 rfl) ?_
    refine lv_iconst (v := 0) hx hb dX3_book_16 (by decide) ?_
    refine lv_iconst (v := 2) hx hb dX3_book_17 (by decide) ?_
    refine g_calli (va_runS (As := [.int _, .int _, .int _]) (rest := []) ⟨hx, hb, hml, hown, hts⟩ (c_in l D K _ _ _ _ _) (va_cwS 3 hts gX3_book_X3_in rfl rfl rfl (by decide +kernel) ⟨(Nat.le_of_ble_eq_true rfl), (Nat.le_of_ble_eq_true rfl)⟩) (g_preS hK hP hD) rfl rfl hl.1 rfl (lv_room (Nat.le_of_ble_eq_true rfl)) dX3_book_18 ⟨Nat.zero_le _, Nat.zero_le _⟩) hD hS hA (fun r18 wv H locs hw hP hD hS => ?_)
    obtain ⟨ew, e18⟩ := hw
    rw [ew] at hP hD
    refine lv_if_ne (tgt := 26) hx hb dX3_book_21 (by decide) (fun c21 => ?_) (fun c21 => ?_)
    · simp only [e18, Classical.not_not] at c21
      refine lv_aload_n hx hb dX3_book_26 rfl (lv_at hl 0 rfl) ?_
      refine va_get (C := RX3) (T := TX3) (N := 21) (ci := 3) hx hb hts hi_X3 hown hK hP (0) (rfl) rfl 8 (by decide) (hts (.fieldLink RX3 105 "GroupSeatsModel" "listed" "I") (by decide +kernel)) (fun _ h9 => h9) rfl dX3_book_27 ?_
      refine lv_if_ne (tgt := 36) hx hb dX3_book_30 (by decide) (fun c30 => ?_) (fun c30 => ?_)
      · refine lv_aload_n hx hb dX3_book_36 rfl (lv_at hl 0 rfl) ?_
        refine va_get (C := RX3) (T := TX3) (N := 21) (ci := 3) hx hb hts hi_X3 hown hK hP (0) (rfl) rfl 9 (by decide) (hts (.fieldLink RX3 54 "GroupSeatsModel" "bookings" "I") (by decide +kernel)) (fun _ h9 => h9) rfl dX3_book_37 ?_
        refine lv_bipush (v := 40) hx hb dX3_book_40 (by decide) ?_
        refine lv_icmp_ne (tgt := 48) hx hb dX3_book_42 (by decide) (fun c42 => ?_) (fun c42 => ?_)
        · obtain ⟨n1, hn1, hn2, rfl⟩ := g_ix1 (n := 60) (M := 60) rfl (by have := c12.1; simp only [Int32.le_iff_toInt_le, Int32.lt_iff_toInt_lt, gl_m1, gl_0, gl_1, gl_2, gl_3, gl_5, gl_6, gl_8, gl_9, gl_10, gl_11, gl_20, gl_40, gl_60] at this ⊢; omega) c12.2
          have hBl : B < 40 := by
            rcases Nat.lt_or_ge B 40 with q9 | q9
            · exact q9
            · exact absurd (by rw [show B = 40 by omega]; rfl) c42
          have hls : li.length ≠ 0 := fun h => c30 (by rw [h]; rfl)
          have hc1 : (1 ≤ nI n1 ∧ nI n1 ≤ 60) ∧ 0 ≤ mo ∧ mo ≤ 2 := ⟨c12, c21⟩
          refine lv_aload_n hx hb dX3_book_48 rfl (lv_at hl 0 rfl) ?_
          refine lv_aload_n hx hb dX3_book_49 rfl (lv_at hl 0 rfl) ?_
          refine va_get (C := RX3) (T := TX3) (N := 21) (ci := 3) hx hb hts hi_X3 hown hK hP (0) (rfl) rfl 8 (by decide) (hts (.fieldLink RX3 105 "GroupSeatsModel" "listed" "I") (by decide +kernel)) (fun _ h9 => h9) rfl dX3_book_50 ?_
          refine va_put (C := RX3) (T := TX3) (N := 21) (ci := 3) (ty := .int) hx hb hts hi_X3 tyX3 tyX3_ok nmX3 hown hK hP hD hS (0) (rfl) rfl 18 (by decide) (hts (.fieldLink RX3 68 "GroupSeatsModel" "wayLong" "I") (by decide +kernel)) (fun _ h9 => h9) rfl (by decide +kernel) rfl rfl (Nat.le_of_ble_eq_true rfl) dX3_book_53 (fun H locs hP hD hS => ?_)
          have hP : va_P D vwCl (mW K ma 0 (nI li.length) (nI B) (nI q.length) (nI mh) fl (nI li.length) fd op st zs ho ba se lx cn pe lt le wa ta) H := hP
          have hD : va_D A (mW K ma 0 (nI li.length) (nI B) (nI q.length) (nI mh) fl (nI li.length) fd op st zs ho ba se lx cn pe lt le wa ta) := hD
          refine lv_iconst (v := 0) hx hb dX3_book_56 (by decide) ?_
          refine lv_istore_n (lv' := [(3, .int _), (0, .ref _), (1, .int _), (2, .int _)]) hx hb dX3_book_57 rfl hl (by decide) rfl (fun ls hl => ?_)
          refine lp_bk1 (n := li.length) (x1 := nI n1) (x2 := mo) hLc6 I0 ?_ li.length 0 _ _ (by omega) (by rw [cpL_0]; exact hP) (by rw [cpL_0]; exact hD) hS ls (lv_sub hl [0, 1, 2, 3] rfl)
          intro H locs hP hD hS ls hl
          refine lv_aload_n hx hb dX3_book_84 rfl (lv_at hl 0 rfl) ?_
          refine lv_iconst (v := 0) hx hb dX3_book_85 (by decide) ?_
          refine va_put (C := RX3) (T := TX3) (N := 21) (ci := 3) (ty := .int) hx hb hts hi_X3 tyX3 tyX3_ok nmX3 hown hK hP hD hS (0) (rfl) rfl 8 (by decide) (hts (.fieldLink RX3 105 "GroupSeatsModel" "listed" "I") (by decide +kernel)) (fun _ h9 => h9) rfl (by decide +kernel) rfl rfl (Nat.le_of_ble_eq_true rfl) dX3_book_86 (fun H locs hP hD hS => ?_)
          have hP : va_P D vwCl (mW K ma 0 0 (nI B) (nI q.length) (nI mh) fl (nI li.length) fd op st zs ho ba se lx cn pe lt le (cpL lx wa li.length) ta) H := hP
          have hD : va_D A (mW K ma 0 0 (nI B) (nI q.length) (nI mh) fl (nI li.length) fd op st zs ho ba se lx cn pe lt le (cpL lx wa li.length) ta) := hD
          refine lv_aload_n hx hb dX3_book_89 rfl (lv_at hl 0 rfl) ?_
          refine lv_iload_n hx hb dX3_book_90 rfl (lv_at hl 1 rfl) ?_
          refine lv_iload_n hx hb dX3_book_91 rfl (lv_at hl 2 rfl) ?_
          refine g_calli (va_runV (As := [.int _, .int _]) (rest := []) ⟨hx, hb, hml, hown, hts⟩ (m_goes l D K ma op st zs ho ba se lx cn pe lt le (cpL lx wa li.length) ta 0 0 (nI q.length) fl fd z sd ow B mh n1 mo li _ hz (isL_cpL hLc) (by omega) hn2 (OR_ne hOR (by omega)) (by omega) hMS) (cwV 2 hts gX3_book_X3_goes rfl rfl rfl (by decide +kernel) ⟨(Nat.le_of_ble_eq_true rfl), (Nat.le_of_ble_eq_true rfl)⟩) (g_preV hK hP hD (ci := 3) (q0 := 0) rfl (rfl)) rfl rfl hl.1 rfl (lv_room (Nat.le_of_ble_eq_true rfl)) dX3_book_92 ⟨Nat.zero_le _, Nat.zero_le _⟩) hD hS hA (fun r92 wv H locs hw hP hD hS => ?_)
          by_cases hG : (goA z sd (nI B) n1 mo li n1 0 ow mh).1 = 0
          · obtain ⟨er, ho1, ba1, se1, ta1, fd1, ew, hMS1⟩ := hw.1 hG
            rw [ew] at hP hD
            rw [er]
            refine lv_istore_n (lv' := [(3, .int _), (0, .ref _), (1, .int _), (2, .int _)]) hx hb dX3_book_95 rfl hl (by decide) rfl (fun ls hl => ?_)
            refine lv_iload_n hx hb dX3_book_96 rfl (lv_at hl 0 rfl) ?_
            refine lv_bipush (v := -4) hx hb dX3_book_97 (by decide) ?_
            refine lv_icmp_ne (tgt := 116) hx hb dX3_book_99 (by decide) (fun c99 => ?_) (fun c99 => ?_)
            · refine lv_iload_n hx hb dX3_book_116 rfl (lv_at hl 0 rfl) ?_
              exact g_iret hx hb hr hlocks (Nat.le_of_ble_eq_true rfl) (Nat.le_of_ble_eq_true rfl) hK hP hD hS dX3_book_117 (by unfold opBook; rw [if_pos hc1, if_neg hls, if_pos hBl, ixN_nI (n := n1) (by omega)]; unfold opGo; rw [if_pos hG]; exact ⟨rfl, ma, 0, _, fd1, op, st, zs, ho1, ba1, se1, lx, pe, lt, le, _, ta1, rfl, rfl, hMS1, isL_nil, hQ⟩)
            · exact absurd (congrArg Int32.toInt c99) (by rw [nI_toInt (by omega), show (-4 : Int32).toInt = -4 from rfl]; omega)
          · obtain ⟨er, ho1, ba1, se1, ta1, fd1, ew, hMS1⟩ := hw.2 hG
            rw [ew] at hP hD
            rw [er]
            refine lv_istore_n (lv' := [(3, .int _), (0, .ref _), (1, .int _), (2, .int _)]) hx hb dX3_book_95 rfl hl (by decide) rfl (fun ls hl => ?_)
            refine lv_iload_n hx hb dX3_book_96 rfl (lv_at hl 0 rfl) ?_
            refine lv_bipush (v := -4) hx hb dX3_book_97 (by decide) ?_
            refine lv_icmp_ne (tgt := 116) hx hb dX3_book_99 (by decide) (fun c99 => ?_) (fun c99 => ?_)
            · refine lv_iload_n hx hb dX3_book_116 rfl (lv_at hl 0 rfl) ?_
              exact g_iret hx hb hr hlocks (Nat.le_of_ble_eq_true rfl) (Nat.le_of_ble_eq_true rfl) hK hP hD hS dX3_book_117 (by unfold opBook; rw [if_pos hc1, if_neg hls, if_pos hBl, ixN_nI (n := n1) (by omega)]; unfold opGo; rw [if_neg hG, if_neg (fun h => c99 h.1)]; exact ⟨rfl, ma, 0, _, fd1, op, st, zs, ho1, ba1, se1, lx, pe, lt, le, _, ta1, rfl, rfl, hMS1, isL_nil, hQ⟩)
            · refine lv_iload_n hx hb dX3_book_102 rfl (lv_at hl 3 rfl) ?_
              refine lv_iconst (v := 2) hx hb dX3_book_103 (by decide) ?_
              refine lv_icmp_ne (tgt := 116) hx hb dX3_book_104 (by decide) (fun c104 => ?_) (fun c104 => ?_)
              · refine lv_iload_n hx hb dX3_book_116 rfl (lv_at hl 0 rfl) ?_
                exact g_iret hx hb hr hlocks (Nat.le_of_ble_eq_true rfl) (Nat.le_of_ble_eq_true rfl) hK hP hD hS dX3_book_117 (by unfold opBook; rw [if_pos hc1, if_neg hls, if_pos hBl, ixN_nI (n := n1) (by omega)]; unfold opGo; rw [if_neg hG, if_neg (fun h => c104 h.2.1)]; exact ⟨rfl, ma, 0, _, fd1, op, st, zs, ho1, ba1, se1, lx, pe, lt, le, _, ta1, rfl, rfl, hMS1, isL_nil, hQ⟩)
              · refine lv_aload_n hx hb dX3_book_107 rfl (lv_at hl 1 rfl) ?_
                refine va_get (C := RX3) (T := TX3) (N := 21) (ci := 3) hx hb hts hi_X3 hown hK hP (0) (rfl) rfl 14 (by decide) (hts (.fieldLink RX3 84 "GroupSeatsModel" "waits" "I") (by decide +kernel)) (fun _ h9 => h9) rfl dX3_book_108 ?_
                refine lv_bipush (v := 8) hx hb dX3_book_111 (by decide) ?_
                refine lv_icmp_ne (tgt := 118) hx hb dX3_book_113 (by decide) (fun c113 => ?_) (fun c113 => ?_)
                · have hq7 : q.length < 8 := by
                    rcases Nat.lt_or_ge q.length 8 with q9 | q9
                    · exact q9
                    · exact absurd (by rw [show q.length = 8 by omega]; rfl) c113
                  refine lv_aload_n hx hb dX3_book_118 rfl (lv_at hl 1 rfl) ?_
                  refine va_get (C := RX3) (T := TX3) (N := 21) (ci := 3) hx hb hts hi_X3 hown hK hP (0) (rfl) rfl 11 (by decide) (hts (.fieldLink RX3 35 "GroupSeatsModel" "people" "[I") (by decide +kernel)) (fun _ h9 => h9) rfl dX3_book_119 ?_
                  refine lv_aload_n hx hb dX3_book_122 rfl (lv_at hl 1 rfl) ?_
                  refine va_get (C := RX3) (T := TX3) (N := 21) (ci := 3) hx hb hts hi_X3 hown hK hP (0) (rfl) rfl 14 (by decide) (hts (.fieldLink RX3 84 "GroupSeatsModel" "waits" "I") (by decide +kernel)) (fun _ h9 => h9) rfl dX3_book_123 ?_
                  refine lv_iload_n hx hb dX3_book_126 rfl (lv_at hl 2 rfl) ?_
                  refine va_iast hx hb hK hP hD hS (9) 0 (rfl) rfl (vp_in_nI hq7 (by decide)) dX3_book_127 (fun H locs hP hD hS => ?_)
                  have hP : va_P D vwCl (mW K ma 0 0 (nI B) (nI q.length) (nI (goA z sd (nI B) n1 mo li n1 0 ow mh).2.2) (fl + 1) (nI li.length) fd1 op st zs ho1 ba1 se1 lx cn (upd pe (nI q.length).toNatClampNeg (nI n1)) lt le (cpL lx wa li.length) ta1) H := hP
                  have hD : va_D A (mW K ma 0 0 (nI B) (nI q.length) (nI (goA z sd (nI B) n1 mo li n1 0 ow mh).2.2) (fl + 1) (nI li.length) fd1 op st zs ho1 ba1 se1 lx cn (upd pe (nI q.length).toNatClampNeg (nI n1)) lt le (cpL lx wa li.length) ta1) := hD
                  rw [nI_clamp (n := q.length) (by omega)] at hP hD
                  refine lv_aload_n hx hb dX3_book_128 rfl (lv_at hl 1 rfl) ?_
                  refine va_get (C := RX3) (T := TX3) (N := 21) (ci := 3) hx hb hts hi_X3 hown hK hP (0) (rfl) rfl 13 (by decide) (hts (.fieldLink RX3 41 "GroupSeatsModel" "lengths" "[I") (by decide +kernel)) (fun _ h9 => h9) rfl dX3_book_129 ?_
                  refine lv_aload_n hx hb dX3_book_132 rfl (lv_at hl 1 rfl) ?_
                  refine va_get (C := RX3) (T := TX3) (N := 21) (ci := 3) hx hb hts hi_X3 hown hK hP (0) (rfl) rfl 14 (by decide) (hts (.fieldLink RX3 84 "GroupSeatsModel" "waits" "I") (by decide +kernel)) (fun _ h9 => h9) rfl dX3_book_133 ?_
                  refine lv_aload_n hx hb dX3_book_136 rfl (lv_at hl 1 rfl) ?_
                  refine va_get (C := RX3) (T := TX3) (N := 21) (ci := 3) hx hb hts hi_X3 hown hK hP (0) (rfl) rfl 18 (by decide) (hts (.fieldLink RX3 68 "GroupSeatsModel" "wayLong" "I") (by decide +kernel)) (fun _ h9 => h9) rfl dX3_book_137 ?_
                  refine va_iast hx hb hK hP hD hS (11) 0 (rfl) rfl (vp_in_nI hq7 (by decide)) dX3_book_140 (fun H locs hP hD hS => ?_)
                  have hP : va_P D vwCl (mW K ma 0 0 (nI B) (nI q.length) (nI (goA z sd (nI B) n1 mo li n1 0 ow mh).2.2) (fl + 1) (nI li.length) fd1 op st zs ho1 ba1 se1 lx cn (upd pe q.length (nI n1)) lt (upd le (nI q.length).toNatClampNeg (nI li.length)) (cpL lx wa li.length) ta1) H := hP
                  have hD : va_D A (mW K ma 0 0 (nI B) (nI q.length) (nI (goA z sd (nI B) n1 mo li n1 0 ow mh).2.2) (fl + 1) (nI li.length) fd1 op st zs ho1 ba1 se1 lx cn (upd pe q.length (nI n1)) lt (upd le (nI q.length).toNatClampNeg (nI li.length)) (cpL lx wa li.length) ta1) := hD
                  rw [nI_clamp (n := q.length) (by omega)] at hP hD
                  refine lv_iconst (v := 0) hx hb dX3_book_141 (by decide) ?_
                  refine lv_istore (lv' := [(4, .int _), (3, .int _), (0, .ref _), (1, .int _), (2, .int _)]) hx hb dX3_book_142 hl (by decide) rfl (fun ls hl => ?_)
                  refine lp_bk2 (n := li.length) (k0 := q.length) hLc6 hq7 I0 ?_ li.length 0 _ _ (by omega) (by rw [cpQ_0]; exact hP) (by rw [cpQ_0]; exact hD) hS ls (lv_sub hl [0, 2, 3, 4, 1] rfl)
                  intro H locs hP hD hS ls hl
                  refine lv_aload_n hx hb dX3_book_181 rfl (lv_at hl 0 rfl) ?_
                  refine lv_dup hx hb dX3_book_182 rfl ?_
                  refine va_get (C := RX3) (T := TX3) (N := 21) (ci := 3) hx hb hts hi_X3 hown hK hP (0) (rfl) rfl 14 (by decide) (hts (.fieldLink RX3 84 "GroupSeatsModel" "waits" "I") (by decide +kernel)) (fun _ h9 => h9) rfl dX3_book_183 ?_
                  refine lv_iconst (v := 1) hx hb dX3_book_186 (by decide) ?_
                  refine lv_iadd hx hb dX3_book_187 ?_
                  refine va_put (C := RX3) (T := TX3) (N := 21) (ci := 3) (ty := .int) hx hb hts hi_X3 tyX3 tyX3_ok nmX3 hown hK hP hD hS (0) (rfl) rfl 14 (by decide) (hts (.fieldLink RX3 84 "GroupSeatsModel" "waits" "I") (by decide +kernel)) (fun _ h9 => h9) rfl (by decide +kernel) rfl rfl (Nat.le_of_ble_eq_true rfl) dX3_book_188 (fun H locs hP hD hS => ?_)
                  have hP : va_P D vwCl (mW K ma 0 0 (nI B) (nI q.length + 1) (nI (goA z sd (nI B) n1 mo li n1 0 ow mh).2.2) (fl + 1) (nI li.length) fd1 op st zs ho1 ba1 se1 lx cn (upd pe q.length (nI n1)) (cpQ (cpL lx wa li.length) lt q.length li.length) (upd le q.length (nI li.length)) (cpL lx wa li.length) ta1) H := hP
                  have hD : va_D A (mW K ma 0 0 (nI B) (nI q.length + 1) (nI (goA z sd (nI B) n1 mo li n1 0 ow mh).2.2) (fl + 1) (nI li.length) fd1 op st zs ho1 ba1 se1 lx cn (upd pe q.length (nI n1)) (cpQ (cpL lx wa li.length) lt q.length li.length) (upd le q.length (nI li.length)) (cpL lx wa li.length) ta1) := hD
                  rw [nI_1 q.length] at hP hD
                  refine lv_bipush (v := -7) hx hb dX3_book_191 (by decide) ?_
                  exact g_iret hx hb hr hlocks (Nat.le_of_ble_eq_true rfl) (Nat.le_of_ble_eq_true rfl) hK hP hD hS dX3_book_193 (by unfold opBook; rw [if_pos hc1, if_neg hls, if_pos hBl, ixN_nI (n := n1) (by omega)]; unfold opGo; rw [if_neg hG, if_pos ⟨c99, c104, hq7⟩]; exact ⟨rfl, ma, 0, _, fd1, op, st, zs, ho1, ba1, se1, lx, _, _, _, _, ta1, rfl, by rw [List.length_append]; rfl, hMS1, isL_nil, MQr_push hQ (isL_cpL hLc) hn1 hn2⟩)
                · refine lv_iload_n hx hb dX3_book_116 rfl (lv_at hl 0 rfl) ?_
                  exact g_iret hx hb hr hlocks (Nat.le_of_ble_eq_true rfl) (Nat.le_of_ble_eq_true rfl) hK hP hD hS dX3_book_117 (by unfold opBook; rw [if_pos hc1, if_neg hls, if_pos hBl, ixN_nI (n := n1) (by omega)]; unfold opGo; rw [if_neg hG, if_neg (fun h => absurd ((nI_eq (b := 8) (by omega) (by decide)).mp c113) (by omega))]; exact ⟨rfl, ma, 0, _, fd1, op, st, zs, ho1, ba1, se1, lx, pe, lt, le, _, ta1, rfl, rfl, hMS1, isL_nil, hQ⟩)
        · refine lv_bipush (v := -3) hx hb dX3_book_45 (by decide) ?_
          exact g_iret hx hb hr hlocks (Nat.le_of_ble_eq_true rfl) (Nat.le_of_ble_eq_true rfl) hK hP hD hS dX3_book_47 (by have hls : li.length ≠ 0 := (fun h => c30 (by rw [h]; rfl)); have hB := (nI_eq (a := B) (b := 40) (by omega) (by decide)).mp c42; unfold opBook; rw [if_pos ⟨c12, c21⟩, if_neg hls, if_neg (by omega)]; exact ⟨rfl, ⟨ma, 0, wl, fd, op, st, zs, ho, ba, se, lx, pe, lt, le, wa, ta, rfl, rfl, hMS, hLc, hQ⟩⟩)
      · refine lv_bipush (v := -2) hx hb dX3_book_33 (by decide) ?_
        exact g_iret hx hb hr hlocks (Nat.le_of_ble_eq_true rfl) (Nat.le_of_ble_eq_true rfl) hK hP hD hS dX3_book_35 (by have hls : li.length = 0 := (nI_eq (by omega) (by decide)).mp c30; unfold opBook; rw [if_pos ⟨c12, c21⟩, if_pos hls]; exact ⟨rfl, ⟨ma, 0, wl, fd, op, st, zs, ho, ba, se, lx, pe, lt, le, wa, ta, rfl, rfl, hMS, hLc, hQ⟩⟩)
    · simp only [e18, Classical.not_not] at c21
      refine lv_iconst (v := -1) hx hb dX3_book_24 (by decide) ?_
      exact g_iret hx hb hr hlocks (Nat.le_of_ble_eq_true rfl) (Nat.le_of_ble_eq_true rfl) hK hP hD hS dX3_book_25 (by unfold opBook; rw [if_neg (fun h => by simp only [inRow, Int32.le_iff_toInt_le, Int32.lt_iff_toInt_lt, gl_m1, gl_0, gl_1, gl_2, gl_3, gl_5, gl_6, gl_8, gl_9, gl_10, gl_11, gl_20, gl_40, gl_60] at h c12 c21; omega)]; exact ⟨rfl, ⟨ma, 0, wl, fd, op, st, zs, ho, ba, se, lx, pe, lt, le, wa, ta, rfl, rfl, hMS, hLc, hQ⟩⟩)
