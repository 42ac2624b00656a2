/-! THE CLAIM OUT OF ONE WALK OF THE LAW'S BODY. Your part is whole_start (and what it stands on); all else here is the same for every law, but numbers. -/
def R_law : String := "GroupSeatsLaw"
def lw_P (b : Addr) (xs : List Int32) (args : Array Value) (s : State) : Prop := args = #[.ref b] ∧ s.IntsAt b xs ∧ xs.length ≤ 3 ∧ (Jvm.Cond.and given_1 narrow_1).before args s = true
def lw_Q (_ : Array Value) (s : State) (o : Outcome) (t : State) : Prop := o = .returned (some (.int 1)) ∧ Framed s o t [] 600000 7302250
def lw_Z (below : List Frame) (a : Array Value) (s : State) : State → Prop := fun t => ∃ o, t.status = .running ∧ Ended t below o ∧ lw_Q a s o t
/-- the law's own end, with 1 on the stack, nothing written that was there before, its room as the claim has it -/
theorem lw_ret {p : Program} {l : Launch} {e : Env} {s : State} {m : MethodId} {below : List Frame} {meth : Method} {c : Code} {b : Nat} (hx : p.tables.exec = Jvm.exec) (hb : c.code = code) (hr : meth.sig.returnType = ret) (hlocks : meth.locks = false) {pc : Nat} {H : Heap} {ls : Array Slot} (hdg : decode code pc = .ok (.ireturn, 1)) : W p l e room_1 s m #[Value.ref b] below meth c H [] 600000 7302250 (lw_Z below #[Value.ref b] s) (F0 m pc ls [.int 1]) := by
  intro T hT X
  obtain ⟨fs, hret, hrun, hended, hW, hframe⟩ := X.leave (v := some (.int 1)) (hlocks := hlocks) (fun h => by rw [hr] at h; cases h)
  have hmeth' : T.vm.method? m = some meth := X.method'
  refine ⟨T.setFrames fs, ?_, .returned (some (.int 1)), hrun, hended, rfl, ⟨_, rfl⟩, hW, hframe⟩
  jvm_step X.here [X.here.top, hx, hb, hdg, hmeth', hr, ret, narrow_b1]
  (try refine ⟨rfl, ?_⟩); (try refine ⟨rfl, ?_⟩)
  first | (intro acts; rw [hret _ acts rfl rfl rfl]) | rw [hret _ _ rfl rfl rfl]
  exact Steps.refl _
/-- what holds at the law's entry: the machine, the code, the tables' words (any of lw_tbl by 'hts w (by decide +kernel)'), the script of L ints xs at the cell b, what the Statement gives of the start (any of its parts by flat_of_before) -/
def lw_At (p : Program) (s : State) (m : MethodId) (meth : Method) (c : Code) (b L : Nat) (xs : Nat → Int32) : Prop :=
  p.tables.exec = Jvm.exec ∧ c.code = code ∧ meth.sig.returnType = ret ∧ c.maxLocals = 4 ∧ s.vm.findClass R_law = some m.cls ∧ (∀ w ∈ lw_tbl, w.before #[Value.ref b] s = true) ∧ va_X b L xs s s.heap ∧ b < s.heap.size ∧ meth.locks = false ∧ (Jvm.Cond.and given_1 narrow_1).before #[Value.ref b] s = true
section GCF
variable {p : Program} {l : Launch} {e : Env} {R : Room} {s : State} {m : MethodId} {args : Array Value} {below : List Frame} {meth : Method} {c : Code} {H : Heap} {locs : List Loc} {cells slots : Nat} {Q : State → Prop}
variable {pc : Nat} {ls : Array Slot} {rest st0 : List Value} {a : Array Value} {A : Nat → Prop} {H0 : Heap} {mc ms : Nat}
variable {D : va_G} {cl : List vw_C} {tys : List (ClassId × FieldType)} {ws : va_W}
theorem g_calliF {X Y : va_W} {post : Int32 → va_W → Prop} (hr : va_Run p l e R s m args below meth c H locs cells slots mc ms (F0 m pc ls st0) rest (va_Qi post (gB D cl tys (va_A Y H.size)) (va_A Y H.size) a) (va_A Y H.size)) (hP : va_P D cl (X ++ Y) H) (hD : va_D A (X ++ Y)) (hS : va_S A H0 H locs) (hA : ∀ q : Nat, H0.size ≤ q → A q)
    (kk : ∀ (r : Int32) (w : va_W) (H1 : Heap) (locs1 : List Loc), post r w → va_P D cl (X ++ w) H1 → va_D A (X ++ w) → va_S A H0 H1 locs1 → W p l e R s m args below meth c H1 locs1 (cells + mc) (slots + ms) Q (F0 m (pc + 3) ls (.int r :: rest))) : W p l e R s m args below meth c H locs cells slots Q (F0 m pc ls st0) := by
  have hF : ∀ q : Nat, va_A Y H.size q → A q := fun q h => by
    rcases h with ⟨k, x, hk⟩ | h
    · exact hD.2 (X.length + k) (q, x) (by rw [List.getElem?_append_right (by omega), Nat.add_sub_cancel_left]; exact hk)
    · exact hA q (Nat.le_trans hS.1 h)
  refine va_calli hr hS (fun q _ h => hF q h) hF (fun r w t H1 locs1 ht hvm hw hB hz1 hk1 hS1 => ?_)
  obtain ⟨hP1, hK1, hD1⟩ := hB
  rw [ht] at hP1
  obtain ⟨hP2, hD2⟩ := g_frame hP hD hF hk1 hP1 hD1
  exact kk r w H1 locs1 hw hP2 hD2 hS1
end GCF
theorem g_arrI {args : Array Value} {s : State} (h : (Cond.arrayClass .int).before args s = true) : ∃ c : ClassId, ArrOfT s c .int ∧ va_RA s c .int := by
  obtain ⟨c, k, comp, h1, h2, h3⟩ := Cond.arrayClass_spec h
  exact ⟨c, fun n z => ⟨fun k h => (by cases h), k, h2, comp, h3⟩, h1⟩
theorem g_arrZ {args : Array Value} {s : State} (h : (Cond.arrayClass .boolean).before args s = true) : ∃ c : ClassId, ArrOfT s c .boolean ∧ va_RA s c .boolean := by
  obtain ⟨c, k, comp, h1, h2, h3⟩ := Cond.arrayClass_spec h
  exact ⟨c, fun n z => ⟨fun k h => (by cases h), k, h2, comp, h3⟩, h1⟩
theorem g_arrO {args : Array Value} {s : State} {C : String} (h : (Cond.arrayOver (.object C)).before args s = true) : ∃ c : ClassId, ArrOfT s c (.object C) ∧ va_RA s c (.object C) := by
  obtain ⟨comp, c, k, h1, h2, h3, h4, h5⟩ := Cond.arrayOver_spec h
  exact ⟨c, fun n z => ⟨fun k h => (by cases h), k, h3, comp, h4⟩, k, comp, h3, h4, h1, h5⟩
theorem g_in3_0 : vp_in 0 3 := by unfold vp_in; decide
theorem g_in3_1 : vp_in (0 + 1) 3 := by unfold vp_in; decide
theorem g_in3_2 : vp_in (0 + 2) 3 := by unfold vp_in; decide
set_option maxHeartbeats 4000000 in
set_option maxRecDepth 100000 in
/-- the law's end, at its loop's head -/
theorem law_end {p : Program} {l : Launch} {e : Env} {s : State} {m : MethodId} {below : List Frame} {meth : Method} {c : Code} {b L : Nat} {xs : Nat → Int32} (C0 : lw_At p s m meth c b L xs) {H : Heap} {locs : List Loc} {cells slots : Nat} (hc : cells ≤ 600000) (hs : slots ≤ 7302250) (hS : va_S (fun q : Nat => s.heap.size ≤ q) s.heap H locs) {x2 x1 : Nat} {x3 : Int32} (h3 : Int32.ofNat L - 3 < x3) {ls : Array Slot} (hl : lv_has ls 4 [(3, .int x3), (2, .ref x2), (1, .ref x1), (0, .ref b)]) :
    W p l e room_1 s m #[Value.ref b] below meth c H locs cells slots (lw_Z below #[Value.ref b] s) (F0 m 18 ls []) := by
  obtain ⟨hx, hb, hr, hml, hown, hts, hX, hbl, hlocks, hgv⟩ := C0
  have hbA : ¬ (fun q : Nat => s.heap.size ≤ q) b := Nat.not_le.mpr hbl
  refine lv_iload_n hx hb dL_law_18 rfl (lv_at hl 0 rfl) ?_
  refine lv_aload_n hx hb dL_law_19 rfl (lv_at hl 3 rfl) ?_
  refine va_slen hx hb hX hbl hbA hS dL_law_20 ?_
  refine lv_iconst (v := 3) hx hb dL_law_21 (by decide) ?_
  refine lv_isub hx hb dL_law_22 ?_
  refine lv_icmp_gt (tgt := 454) hx hb dL_law_23 (by decide) (fun c23 => ?_) (fun c23 => absurd h3 c23)
  refine lv_iconst (v := 1) hx hb dL_law_454 (by decide) ?_
  refine va_forget (fun q hq => hS.2.2 q hq) ?_
  refine W.widen (k := 600000) (n := 7302250) hc hs ?_
  exact lw_ret hx hb hr hlocks dL_law_455
set_option maxHeartbeats 4000000 in
set_option maxRecDepth 100000 in
theorem law_open {p : Program} {l : Launch} {e : Env} {s : State} {m : MethodId} {below : List Frame} {meth : Method} {c : Code} {b : Nat} {xs : Nat → Int32} (C0 : lw_At p s m meth c b 3 xs) {D : va_G} {K : gCl} (hK : va_K D vwCl (gT K) s) {h0 ar ac aq : Nat} {ra oa pa na ma : Nat → Nat} {H : Heap} {locs : List Loc} (hP : va_P D vwCl (mN K ma ++ gsN K h0 ar ac aq ra oa pa na) H) (hD : va_D (fun q : Nat => s.heap.size ≤ q) (mN K ma ++ gsN K h0 ar ac aq ra oa pa na)) (hS : va_S (fun q : Nat => s.heap.size ≤ q) s.heap H locs) {ls : Array Slot} (hl : lv_has ls 4 [(3, .int 0), (2, .ref (ma 0)), (1, .ref h0), (0, .ref b)]) :
    W p l e room_1 s m #[Value.ref b] below meth c H locs 56 799 (lw_Z below #[Value.ref b] s) (F0 m 96 ls []) := by
  have C0 := C0
  obtain ⟨hx, hb, hr, hml, hown, hts, hX, hbl, hlocks, hgv⟩ := id C0
  have hts : ∀ w ∈ wsL_law, w.before #[Value.ref b] s = true := fun w h => hts w (wsL_law_in w h)
  have hown : s.vm.findClass RL = some m.cls := hown
  have hA : ∀ q : Nat, s.heap.size ≤ q → (fun q : Nat => s.heap.size ≤ q) q := fun _ h => h
  have hbA : ¬ (fun q : Nat => s.heap.size ≤ q) b := Nat.not_le.mpr hbl
  refine lv_aload_n hx hb dL_law_96 rfl (lv_at hl 2 rfl) ?_
  refine lv_aload_n hx hb dL_law_97 rfl (lv_at hl 3 rfl) ?_
  refine lv_iload_n hx hb dL_law_98 rfl (lv_at hl 0 rfl) ?_
  refine lv_iconst (v := 1) hx hb dL_law_99 (by decide) ?_
  refine lv_iadd hx hb dL_law_100 ?_
  refine va_sld hx hb hX hbl hbA hS (by first | exact g_in3_0 | exact g_in3_1 | exact g_in3_2) dL_law_101 ?_
  refine lv_aload_n hx hb dL_law_102 rfl (lv_at hl 3 rfl) ?_
  refine lv_iload_n hx hb dL_law_103 rfl (lv_at hl 0 rfl) ?_
  refine lv_iconst (v := 2) hx hb dL_law_104 (by decide) ?_
  refine lv_iadd hx hb dL_law_105 ?_
  refine va_sld hx hb hX hbl hbA hS (by first | exact g_in3_0 | exact g_in3_1 | exact g_in3_2) dL_law_106 ?_
  have hYY := g_part (X := mN K ma) (Y := gsN K h0 ar ac aq ra oa pa na) hP hD
  refine g_calliF (X := mN K ma) (Y := gsN K h0 ar ac aq ra oa pa na) (va_runV (As := [.int _, .int _]) (rest := []) ⟨hx, hb, hml, hown, hts⟩ (c_open l D K h0 ar ac aq ra oa pa na _ _ _) (cwV 2 hts gL_law_X2_open rfl rfl rfl (by decide +kernel) ⟨(Nat.le_of_ble_eq_true rfl), (Nat.le_of_ble_eq_true rfl)⟩) (g_preV hK hYY.1 hYY.2 (ci := 2) (q0 := 0) rfl rfl) rfl rfl hl.1 rfl (lv_room (Nat.le_of_ble_eq_true rfl)) dL_law_107 ⟨(Nat.le_of_ble_eq_true rfl), (Nat.le_of_ble_eq_true rfl)⟩) hP hD hS hA (fun r1 w1 H locs h1 hP hD hS => ?_)
  obtain ⟨hP, hD⟩ := g_swap hP hD
  refine lv_aload_n hx hb dL_law_110 rfl (lv_at hl 1 rfl) ?_
  refine lv_aload_n hx hb dL_law_111 rfl (lv_at hl 3 rfl) ?_
  refine lv_iload_n hx hb dL_law_112 rfl (lv_at hl 0 rfl) ?_
  refine lv_iconst (v := 1) hx hb dL_law_113 (by decide) ?_
  refine lv_iadd hx hb dL_law_114 ?_
  refine va_sld hx hb hX hbl hbA hS (by first | exact g_in3_0 | exact g_in3_1 | exact g_in3_2) dL_law_115 ?_
  refine lv_aload_n hx hb dL_law_116 rfl (lv_at hl 3 rfl) ?_
  refine lv_iload_n hx hb dL_law_117 rfl (lv_at hl 0 rfl) ?_
  refine lv_iconst (v := 2) hx hb dL_law_118 (by decide) ?_
  refine lv_iadd hx hb dL_law_119 ?_
  refine va_sld hx hb hX hbl hbA hS (by first | exact g_in3_0 | exact g_in3_1 | exact g_in3_2) dL_law_120 ?_
  have hYY := g_part (X := w1) (Y := mN K ma) hP hD
  refine g_calliF (X := w1) (Y := mN K ma) (va_runV (As := [.int _, .int _]) (rest := [.int _]) ⟨hx, hb, hml, hown, hts⟩ (m_open l D K ma _ _ _) (cwV 2 hts gL_law_X3_open rfl rfl rfl (by decide +kernel) ⟨(Nat.le_of_ble_eq_true rfl), (Nat.le_of_ble_eq_true rfl)⟩) (g_preV hK hYY.1 hYY.2 (ci := 3) (q0 := 0) rfl rfl) rfl rfl hl.1 rfl (lv_room (Nat.le_of_ble_eq_true rfl)) dL_law_121 ⟨(Nat.le_of_ble_eq_true rfl), (Nat.le_of_ble_eq_true rfl)⟩) hP hD hS hA (fun r2 w2 H locs h2 hP hD hS => ?_)
  refine lv_icmp_eq (tgt := 448) hx hb dL_law_124 (by decide) (fun c124 => ?_) (fun c124 => ?_)
  · refine lv_iinc (lv' := [(3, .int _), (2, .ref _), (1, .ref _), (0, .ref _)]) hx hb dL_law_448 hl (k := 0) rfl rfl (by decide) rfl (fun ls hl => ?_)
    refine lv_goto (tgt := 18) hx hb dL_law_451 (by decide) ?_
    exact law_end C0 (Nat.le_of_ble_eq_true rfl) (Nat.le_of_ble_eq_true rfl) hS (by decide) (lv_sub hl [0, 1, 2, 3] rfl)
  · exact absurd (h1.trans h2.symm) c124
set_option maxHeartbeats 4000000 in
set_option maxRecDepth 100000 in
theorem law_shut {p : Program} {l : Launch} {e : Env} {s : State} {m : MethodId} {below : List Frame} {meth : Method} {c : Code} {b : Nat} {xs : Nat → Int32} (C0 : lw_At p s m meth c b 3 xs) {D : va_G} {K : gCl} (hK : va_K D vwCl (gT K) s) {h0 ar ac aq : Nat} {ra oa pa na ma : Nat → Nat} {H : Heap} {locs : List Loc} (hP : va_P D vwCl (mN K ma ++ gsN K h0 ar ac aq ra oa pa na) H) (hD : va_D (fun q : Nat => s.heap.size ≤ q) (mN K ma ++ gsN K h0 ar ac aq ra oa pa na)) (hS : va_S (fun q : Nat => s.heap.size ≤ q) s.heap H locs) {ls : Array Slot} (hl : lv_has ls 4 [(3, .int 0), (2, .ref (ma 0)), (1, .ref h0), (0, .ref b)]) :
    W p l e room_1 s m #[Value.ref b] below meth c H locs 56 799 (lw_Z below #[Value.ref b] s) (F0 m 129 ls []) := by
  have C0 := C0
  obtain ⟨hx, hb, hr, hml, hown, hts, hX, hbl, hlocks, hgv⟩ := id C0
  have hts : ∀ w ∈ wsL_law, w.before #[Value.ref b] s = true := fun w h => hts w (wsL_law_in w h)
  have hown : s.vm.findClass RL = some m.cls := hown
  have hA : ∀ q : Nat, s.heap.size ≤ q → (fun q : Nat => s.heap.size ≤ q) q := fun _ h => h
  have hbA : ¬ (fun q : Nat => s.heap.size ≤ q) b := Nat.not_le.mpr hbl
  refine lv_aload_n hx hb dL_law_129 rfl (lv_at hl 2 rfl) ?_
  refine lv_aload_n hx hb dL_law_130 rfl (lv_at hl 3 rfl) ?_
  refine lv_iload_n hx hb dL_law_131 rfl (lv_at hl 0 rfl) ?_
  refine lv_iconst (v := 1) hx hb dL_law_132 (by decide) ?_
  refine lv_iadd hx hb dL_law_133 ?_
  refine va_sld hx hb hX hbl hbA hS (by first | exact g_in3_0 | exact g_in3_1 | exact g_in3_2) dL_law_134 ?_
  have hYY := g_part (X := mN K ma) (Y := gsN K h0 ar ac aq ra oa pa na) hP hD
  refine g_calliF (X := mN K ma) (Y := gsN K h0 ar ac aq ra oa pa na) (va_runV (As := [.int _]) (rest := []) ⟨hx, hb, hml, hown, hts⟩ (c_shut l D K h0 ar ac aq ra oa pa na _ _) (cwV 1 hts gL_law_X2_shut rfl rfl rfl (by decide +kernel) ⟨(Nat.le_of_ble_eq_true rfl), (Nat.le_of_ble_eq_true rfl)⟩) (g_preV hK hYY.1 hYY.2 (ci := 2) (q0 := 0) rfl rfl) rfl rfl hl.1 rfl (lv_room (Nat.le_of_ble_eq_true rfl)) dL_law_135 ⟨(Nat.le_of_ble_eq_true rfl), (Nat.le_of_ble_eq_true rfl)⟩) hP hD hS hA (fun r1 w1 H locs h1 hP hD hS => ?_)
  obtain ⟨hP, hD⟩ := g_swap hP hD
  refine lv_aload_n hx hb dL_law_138 rfl (lv_at hl 1 rfl) ?_
  refine lv_aload_n hx hb dL_law_139 rfl (lv_at hl 3 rfl) ?_
  refine lv_iload_n hx hb dL_law_140 rfl (lv_at hl 0 rfl) ?_
  refine lv_iconst (v := 1) hx hb dL_law_141 (by decide) ?_
  refine lv_iadd hx hb dL_law_142 ?_
  refine va_sld hx hb hX hbl hbA hS (by first | exact g_in3_0 | exact g_in3_1 | exact g_in3_2) dL_law_143 ?_
  have hYY := g_part (X := w1) (Y := mN K ma) hP hD
  refine g_calliF (X := w1) (Y := mN K ma) (va_runV (As := [.int _]) (rest := [.int _]) ⟨hx, hb, hml, hown, hts⟩ (m_shut l D K ma _ _) (cwV 1 hts gL_law_X3_shut rfl rfl rfl (by decide +kernel) ⟨(Nat.le_of_ble_eq_true rfl), (Nat.le_of_ble_eq_true rfl)⟩) (g_preV hK hYY.1 hYY.2 (ci := 3) (q0 := 0) rfl rfl) rfl rfl hl.1 rfl (lv_room (Nat.le_of_ble_eq_true rfl)) dL_law_144 ⟨(Nat.le_of_ble_eq_true rfl), (Nat.le_of_ble_eq_true rfl)⟩) hP hD hS hA (fun r2 w2 H locs h2 hP hD hS => ?_)
  refine lv_icmp_eq (tgt := 448) hx hb dL_law_147 (by decide) (fun c147 => ?_) (fun c147 => ?_)
  · refine lv_iinc (lv' := [(3, .int _), (2, .ref _), (1, .ref _), (0, .ref _)]) hx hb dL_law_448 hl (k := 0) rfl rfl (by decide) rfl (fun ls hl => ?_)
    refine lv_goto (tgt := 18) hx hb dL_law_451 (by decide) ?_
    exact law_end C0 (Nat.le_of_ble_eq_true rfl) (Nat.le_of_ble_eq_true rfl) hS (by decide) (lv_sub hl [0, 1, 2, 3] rfl)
  · exact absurd (h1.trans h2.symm) c147
set_option maxHeartbeats 4000000 in
set_option maxRecDepth 100000 in
theorem law_strict {p : Program} {l : Launch} {e : Env} {s : State} {m : MethodId} {below : List Frame} {meth : Method} {c : Code} {b : Nat} {xs : Nat → Int32} (C0 : lw_At p s m meth c b 3 xs) {D : va_G} {K : gCl} (hK : va_K D vwCl (gT K) s) {h0 ar ac aq : Nat} {ra oa pa na ma : Nat → Nat} {H : Heap} {locs : List Loc} (hP : va_P D vwCl (mN K ma ++ gsN K h0 ar ac aq ra oa pa na) H) (hD : va_D (fun q : Nat => s.heap.size ≤ q) (mN K ma ++ gsN K h0 ar ac aq ra oa pa na)) (hS : va_S (fun q : Nat => s.heap.size ≤ q) s.heap H locs) {ls : Array Slot} (hl : lv_has ls 4 [(3, .int 0), (2, .ref (ma 0)), (1, .ref h0), (0, .ref b)]) :
    W p l e room_1 s m #[Value.ref b] below meth c H locs 56 799 (lw_Z below #[Value.ref b] s) (F0 m 152 ls []) := by
  have C0 := C0
  obtain ⟨hx, hb, hr, hml, hown, hts, hX, hbl, hlocks, hgv⟩ := id C0
  have hts : ∀ w ∈ wsL_law, w.before #[Value.ref b] s = true := fun w h => hts w (wsL_law_in w h)
  have hown : s.vm.findClass RL = some m.cls := hown
  have hA : ∀ q : Nat, s.heap.size ≤ q → (fun q : Nat => s.heap.size ≤ q) q := fun _ h => h
  have hbA : ¬ (fun q : Nat => s.heap.size ≤ q) b := Nat.not_le.mpr hbl
  refine lv_aload_n hx hb dL_law_152 rfl (lv_at hl 2 rfl) ?_
  refine lv_aload_n hx hb dL_law_153 rfl (lv_at hl 3 rfl) ?_
  refine lv_iload_n hx hb dL_law_154 rfl (lv_at hl 0 rfl) ?_
  refine lv_iconst (v := 1) hx hb dL_law_155 (by decide) ?_
  refine lv_iadd hx hb dL_law_156 ?_
  refine va_sld hx hb hX hbl hbA hS (by first | exact g_in3_0 | exact g_in3_1 | exact g_in3_2) dL_law_157 ?_
  refine lv_aload_n hx hb dL_law_158 rfl (lv_at hl 3 rfl) ?_
  refine lv_iload_n hx hb dL_law_159 rfl (lv_at hl 0 rfl) ?_
  refine lv_iconst (v := 2) hx hb dL_law_160 (by decide) ?_
  refine lv_iadd hx hb dL_law_161 ?_
  refine va_sld hx hb hX hbl hbA hS (by first | exact g_in3_0 | exact g_in3_1 | exact g_in3_2) dL_law_162 ?_
  refine lv_if_eq (tgt := 170) hx hb dL_law_163 (by decide) (fun c163 => ?_) (fun c163 => ?_)
  · refine lv_iconst (v := 0) hx hb dL_law_170 (by decide) ?_
    have hYY := g_part (X := mN K ma) (Y := gsN K h0 ar ac aq ra oa pa na) hP hD
    refine g_calliF (X := mN K ma) (Y := gsN K h0 ar ac aq ra oa pa na) (va_runV (As := [.int _, .int _]) (rest := []) ⟨hx, hb, hml, hown, hts⟩ (c_strict l D K h0 ar ac aq ra oa pa na _ _ _) (cwV 2 hts gL_law_X2_strict rfl rfl rfl (by decide +kernel) ⟨(Nat.le_of_ble_eq_true rfl), (Nat.le_of_ble_eq_true rfl)⟩) (g_preV hK hYY.1 hYY.2 (ci := 2) (q0 := 0) rfl rfl) rfl rfl hl.1 rfl (lv_room (Nat.le_of_ble_eq_true rfl)) dL_law_171 ⟨(Nat.le_of_ble_eq_true rfl), (Nat.le_of_ble_eq_true rfl)⟩) hP hD hS hA (fun r1 w1 H locs h1 hP hD hS => ?_)
    obtain ⟨hP, hD⟩ := g_swap hP hD
    refine lv_aload_n hx hb dL_law_174 rfl (lv_at hl 1 rfl) ?_
    refine lv_aload_n hx hb dL_law_175 rfl (lv_at hl 3 rfl) ?_
    refine lv_iload_n hx hb dL_law_176 rfl (lv_at hl 0 rfl) ?_
    refine lv_iconst (v := 1) hx hb dL_law_177 (by decide) ?_
    refine lv_iadd hx hb dL_law_178 ?_
    refine va_sld hx hb hX hbl hbA hS (by first | exact g_in3_0 | exact g_in3_1 | exact g_in3_2) dL_law_179 ?_
    refine lv_aload_n hx hb dL_law_180 rfl (lv_at hl 3 rfl) ?_
    refine lv_iload_n hx hb dL_law_181 rfl (lv_at hl 0 rfl) ?_
    refine lv_iconst (v := 2) hx hb dL_law_182 (by decide) ?_
    refine lv_iadd hx hb dL_law_183 ?_
    refine va_sld hx hb hX hbl hbA hS (by first | exact g_in3_0 | exact g_in3_1 | exact g_in3_2) dL_law_184 ?_
    refine lv_if_eq (tgt := 192) hx hb dL_law_185 (by decide) (fun c185 => ?_) (fun c185 => ?_)
    · refine lv_iconst (v := 0) hx hb dL_law_192 (by decide) ?_
      have hYY := g_part (X := w1) (Y := mN K ma) hP hD
      refine g_calliF (X := w1) (Y := mN K ma) (va_runV (As := [.int _, .int _]) (rest := [.int _]) ⟨hx, hb, hml, hown, hts⟩ (m_strict l D K ma _ _ _) (cwV 2 hts gL_law_X3_strict rfl rfl rfl (by decide +kernel) ⟨(Nat.le_of_ble_eq_true rfl), (Nat.le_of_ble_eq_true rfl)⟩) (g_preV hK hYY.1 hYY.2 (ci := 3) (q0 := 0) rfl rfl) rfl rfl hl.1 rfl (lv_room (Nat.le_of_ble_eq_true rfl)) dL_law_193 ⟨(Nat.le_of_ble_eq_true rfl), (Nat.le_of_ble_eq_true rfl)⟩) hP hD hS hA (fun r2 w2 H locs h2 hP hD hS => ?_)
      refine lv_icmp_eq (tgt := 448) hx hb dL_law_196 (by decide) (fun c196 => ?_) (fun c196 => ?_)
      · refine lv_iinc (lv' := [(3, .int _), (2, .ref _), (1, .ref _), (0, .ref _)]) hx hb dL_law_448 hl (k := 0) rfl rfl (by decide) rfl (fun ls hl => ?_)
        refine lv_goto (tgt := 18) hx hb dL_law_451 (by decide) ?_
        exact law_end C0 (Nat.le_of_ble_eq_true rfl) (Nat.le_of_ble_eq_true rfl) hS (by decide) (lv_sub hl [0, 1, 2, 3] rfl)
      · exact absurd (h1.trans h2.symm) c196
    · refine lv_iconst (v := 1) hx hb dL_law_188 (by decide) ?_
      refine lv_goto (tgt := 193) hx hb dL_law_189 (by decide) ?_
      have hYY := g_part (X := w1) (Y := mN K ma) hP hD
      refine g_calliF (X := w1) (Y := mN K ma) (va_runV (As := [.int _, .int _]) (rest := [.int _]) ⟨hx, hb, hml, hown, hts⟩ (m_strict l D K ma _ _ _) (cwV 2 hts gL_law_X3_strict rfl rfl rfl (by decide +kernel) ⟨(Nat.le_of_ble_eq_true rfl), (Nat.le_of_ble_eq_true rfl)⟩) (g_preV hK hYY.1 hYY.2 (ci := 3) (q0 := 0) rfl rfl) rfl rfl hl.1 rfl (lv_room (Nat.le_of_ble_eq_true rfl)) dL_law_193 ⟨(Nat.le_of_ble_eq_true rfl), (Nat.le_of_ble_eq_true rfl)⟩) hP hD hS hA (fun r2 w2 H locs h2 hP hD hS => ?_)
      refine lv_icmp_eq (tgt := 448) hx hb dL_law_196 (by decide) (fun c196 => ?_) (fun c196 => ?_)
      · refine lv_iinc (lv' := [(3, .int _), (2, .ref _), (1, .ref _), (0, .ref _)]) hx hb dL_law_448 hl (k := 0) rfl rfl (by decide) rfl (fun ls hl => ?_)
        refine lv_goto (tgt := 18) hx hb dL_law_451 (by decide) ?_
        exact law_end C0 (Nat.le_of_ble_eq_true rfl) (Nat.le_of_ble_eq_true rfl) hS (by decide) (lv_sub hl [0, 1, 2, 3] rfl)
      · exact absurd (h1.trans h2.symm) c196
  · refine lv_iconst (v := 1) hx hb dL_law_166 (by decide) ?_
    refine lv_goto (tgt := 171) hx hb dL_law_167 (by decide) ?_
    have hYY := g_part (X := mN K ma) (Y := gsN K h0 ar ac aq ra oa pa na) hP hD
    refine g_calliF (X := mN K ma) (Y := gsN K h0 ar ac aq ra oa pa na) (va_runV (As := [.int _, .int _]) (rest := []) ⟨hx, hb, hml, hown, hts⟩ (c_strict l D K h0 ar ac aq ra oa pa na _ _ _) (cwV 2 hts gL_law_X2_strict rfl rfl rfl (by decide +kernel) ⟨(Nat.le_of_ble_eq_true rfl), (Nat.le_of_ble_eq_true rfl)⟩) (g_preV hK hYY.1 hYY.2 (ci := 2) (q0 := 0) rfl rfl) rfl rfl hl.1 rfl (lv_room (Nat.le_of_ble_eq_true rfl)) dL_law_171 ⟨(Nat.le_of_ble_eq_true rfl), (Nat.le_of_ble_eq_true rfl)⟩) hP hD hS hA (fun r1 w1 H locs h1 hP hD hS => ?_)
    obtain ⟨hP, hD⟩ := g_swap hP hD
    refine lv_aload_n hx hb dL_law_174 rfl (lv_at hl 1 rfl) ?_
    refine lv_aload_n hx hb dL_law_175 rfl (lv_at hl 3 rfl) ?_
    refine lv_iload_n hx hb dL_law_176 rfl (lv_at hl 0 rfl) ?_
    refine lv_iconst (v := 1) hx hb dL_law_177 (by decide) ?_
    refine lv_iadd hx hb dL_law_178 ?_
    refine va_sld hx hb hX hbl hbA hS (by first | exact g_in3_0 | exact g_in3_1 | exact g_in3_2) dL_law_179 ?_
    refine lv_aload_n hx hb dL_law_180 rfl (lv_at hl 3 rfl) ?_
    refine lv_iload_n hx hb dL_law_181 rfl (lv_at hl 0 rfl) ?_
    refine lv_iconst (v := 2) hx hb dL_law_182 (by decide) ?_
    refine lv_iadd hx hb dL_law_183 ?_
    refine va_sld hx hb hX hbl hbA hS (by first | exact g_in3_0 | exact g_in3_1 | exact g_in3_2) dL_law_184 ?_
    refine lv_if_eq (tgt := 192) hx hb dL_law_185 (by decide) (fun c185 => ?_) (fun c185 => ?_)
    · refine lv_iconst (v := 0) hx hb dL_law_192 (by decide) ?_
      have hYY := g_part (X := w1) (Y := mN K ma) hP hD
      refine g_calliF (X := w1) (Y := mN K ma) (va_runV (As := [.int _, .int _]) (rest := [.int _]) ⟨hx, hb, hml, hown, hts⟩ (m_strict l D K ma _ _ _) (cwV 2 hts gL_law_X3_strict rfl rfl rfl (by decide +kernel) ⟨(Nat.le_of_ble_eq_true rfl), (Nat.le_of_ble_eq_true rfl)⟩) (g_preV hK hYY.1 hYY.2 (ci := 3) (q0 := 0) rfl rfl) rfl rfl hl.1 rfl (lv_room (Nat.le_of_ble_eq_true rfl)) dL_law_193 ⟨(Nat.le_of_ble_eq_true rfl), (Nat.le_of_ble_eq_true rfl)⟩) hP hD hS hA (fun r2 w2 H locs h2 hP hD hS => ?_)
      refine lv_icmp_eq (tgt := 448) hx hb dL_law_196 (by decide) (fun c196 => ?_) (fun c196 => ?_)
      · refine lv_iinc (lv' := [(3, .int _), (2, .ref _), (1, .ref _), (0, .ref _)]) hx hb dL_law_448 hl (k := 0) rfl rfl (by decide) rfl (fun ls hl => ?_)
        refine lv_goto (tgt := 18) hx hb dL_law_451 (by decide) ?_
        exact law_end C0 (Nat.le_of_ble_eq_true rfl) (Nat.le_of_ble_eq_true rfl) hS (by decide) (lv_sub hl [0, 1, 2, 3] rfl)
      · exact absurd (h1.trans h2.symm) c196
    · refine lv_iconst (v := 1) hx hb dL_law_188 (by decide) ?_
      refine lv_goto (tgt := 193) hx hb dL_law_189 (by decide) ?_
      have hYY := g_part (X := w1) (Y := mN K ma) hP hD
      refine g_calliF (X := w1) (Y := mN K ma) (va_runV (As := [.int _, .int _]) (rest := [.int _]) ⟨hx, hb, hml, hown, hts⟩ (m_strict l D K ma _ _ _) (cwV 2 hts gL_law_X3_strict rfl rfl rfl (by decide +kernel) ⟨(Nat.le_of_ble_eq_true rfl), (Nat.le_of_ble_eq_true rfl)⟩) (g_preV hK hYY.1 hYY.2 (ci := 3) (q0 := 0) rfl rfl) rfl rfl hl.1 rfl (lv_room (Nat.le_of_ble_eq_true rfl)) dL_law_193 ⟨(Nat.le_of_ble_eq_true rfl), (Nat.le_of_ble_eq_true rfl)⟩) hP hD hS hA (fun r2 w2 H locs h2 hP hD hS => ?_)
      refine lv_icmp_eq (tgt := 448) hx hb dL_law_196 (by decide) (fun c196 => ?_) (fun c196 => ?_)
      · refine lv_iinc (lv' := [(3, .int _), (2, .ref _), (1, .ref _), (0, .ref _)]) hx hb dL_law_448 hl (k := 0) rfl rfl (by decide) rfl (fun ls hl => ?_)
        refine lv_goto (tgt := 18) hx hb dL_law_451 (by decide) ?_
        exact law_end C0 (Nat.le_of_ble_eq_true rfl) (Nat.le_of_ble_eq_true rfl) hS (by decide) (lv_sub hl [0, 1, 2, 3] rfl)
      · exact absurd (h1.trans h2.symm) c196
set_option maxHeartbeats 4000000 in
set_option maxRecDepth 100000 in
theorem law_list {p : Program} {l : Launch} {e : Env} {s : State} {m : MethodId} {below : List Frame} {meth : Method} {c : Code} {b : Nat} {xs : Nat → Int32} (C0 : lw_At p s m meth c b 3 xs) {D : va_G} {K : gCl} (hK : va_K D vwCl (gT K) s) {h0 ar ac aq : Nat} {ra oa pa na ma : Nat → Nat} {H : Heap} {locs : List Loc} (hP : va_P D vwCl (mN K ma ++ gsN K h0 ar ac aq ra oa pa na) H) (hD : va_D (fun q : Nat => s.heap.size ≤ q) (mN K ma ++ gsN K h0 ar ac aq ra oa pa na)) (hS : va_S (fun q : Nat => s.heap.size ≤ q) s.heap H locs) {ls : Array Slot} (hl : lv_has ls 4 [(3, .int 0), (2, .ref (ma 0)), (1, .ref h0), (0, .ref b)]) :
    W p l e room_1 s m #[Value.ref b] below meth c H locs 56 799 (lw_Z below #[Value.ref b] s) (F0 m 201 ls []) := by
  have C0 := C0
  obtain ⟨hx, hb, hr, hml, hown, hts, hX, hbl, hlocks, hgv⟩ := id C0
  have hts : ∀ w ∈ wsL_law, w.before #[Value.ref b] s = true := fun w h => hts w (wsL_law_in w h)
  have hown : s.vm.findClass RL = some m.cls := hown
  have hA : ∀ q : Nat, s.heap.size ≤ q → (fun q : Nat => s.heap.size ≤ q) q := fun _ h => h
  have hbA : ¬ (fun q : Nat => s.heap.size ≤ q) b := Nat.not_le.mpr hbl
  refine lv_aload_n hx hb dL_law_201 rfl (lv_at hl 2 rfl) ?_
  refine lv_aload_n hx hb dL_law_202 rfl (lv_at hl 3 rfl) ?_
  refine lv_iload_n hx hb dL_law_203 rfl (lv_at hl 0 rfl) ?_
  refine lv_iconst (v := 1) hx hb dL_law_204 (by decide) ?_
  refine lv_iadd hx hb dL_law_205 ?_
  refine va_sld hx hb hX hbl hbA hS (by first | exact g_in3_0 | exact g_in3_1 | exact g_in3_2) dL_law_206 ?_
  have hYY := g_part (X := mN K ma) (Y := gsN K h0 ar ac aq ra oa pa na) hP hD
  refine g_calliF (X := mN K ma) (Y := gsN K h0 ar ac aq ra oa pa na) (va_runV (As := [.int _]) (rest := []) ⟨hx, hb, hml, hown, hts⟩ (c_list l D K h0 ar ac aq ra oa pa na _ _) (cwV 1 hts gL_law_X2_list rfl rfl rfl (by decide +kernel) ⟨(Nat.le_of_ble_eq_true rfl), (Nat.le_of_ble_eq_true rfl)⟩) (g_preV hK hYY.1 hYY.2 (ci := 2) (q0 := 0) rfl rfl) rfl rfl hl.1 rfl (lv_room (Nat.le_of_ble_eq_true rfl)) dL_law_207 ⟨(Nat.le_of_ble_eq_true rfl), (Nat.le_of_ble_eq_true rfl)⟩) hP hD hS hA (fun r1 w1 H locs h1 hP hD hS => ?_)
  obtain ⟨hP, hD⟩ := g_swap hP hD
  refine lv_aload_n hx hb dL_law_210 rfl (lv_at hl 1 rfl) ?_
  refine lv_aload_n hx hb dL_law_211 rfl (lv_at hl 3 rfl) ?_
  refine lv_iload_n hx hb dL_law_212 rfl (lv_at hl 0 rfl) ?_
  refine lv_iconst (v := 1) hx hb dL_law_213 (by decide) ?_
  refine lv_iadd hx hb dL_law_214 ?_
  refine va_sld hx hb hX hbl hbA hS (by first | exact g_in3_0 | exact g_in3_1 | exact g_in3_2) dL_law_215 ?_
  have hYY := g_part (X := w1) (Y := mN K ma) hP hD
  refine g_calliF (X := w1) (Y := mN K ma) (va_runV (As := [.int _]) (rest := [.int _]) ⟨hx, hb, hml, hown, hts⟩ (m_list l D K ma _ _) (cwV 1 hts gL_law_X3_list rfl rfl rfl (by decide +kernel) ⟨(Nat.le_of_ble_eq_true rfl), (Nat.le_of_ble_eq_true rfl)⟩) (g_preV hK hYY.1 hYY.2 (ci := 3) (q0 := 0) rfl rfl) rfl rfl hl.1 rfl (lv_room (Nat.le_of_ble_eq_true rfl)) dL_law_216 ⟨(Nat.le_of_ble_eq_true rfl), (Nat.le_of_ble_eq_true rfl)⟩) hP hD hS hA (fun r2 w2 H locs h2 hP hD hS => ?_)
  refine lv_icmp_eq (tgt := 448) hx hb dL_law_219 (by decide) (fun c219 => ?_) (fun c219 => ?_)
  · refine lv_iinc (lv' := [(3, .int _), (2, .ref _), (1, .ref _), (0, .ref _)]) hx hb dL_law_448 hl (k := 0) rfl rfl (by decide) rfl (fun ls hl => ?_)
    refine lv_goto (tgt := 18) hx hb dL_law_451 (by decide) ?_
    exact law_end C0 (Nat.le_of_ble_eq_true rfl) (Nat.le_of_ble_eq_true rfl) hS (by decide) (lv_sub hl [0, 1, 2, 3] rfl)
  · exact absurd (h1.trans h2.symm) c219
set_option maxHeartbeats 4000000 in
set_option maxRecDepth 100000 in
theorem law_book {p : Program} {l : Launch} {e : Env} {s : State} {m : MethodId} {below : List Frame} {meth : Method} {c : Code} {b : Nat} {xs : Nat → Int32} (C0 : lw_At p s m meth c b 3 xs) {D : va_G} {K : gCl} (hK : va_K D vwCl (gT K) s) {h0 ar ac aq : Nat} {ra oa pa na ma : Nat → Nat} {H : Heap} {locs : List Loc} (hP : va_P D vwCl (mN K ma ++ gsN K h0 ar ac aq ra oa pa na) H) (hD : va_D (fun q : Nat => s.heap.size ≤ q) (mN K ma ++ gsN K h0 ar ac aq ra oa pa na)) (hS : va_S (fun q : Nat => s.heap.size ≤ q) s.heap H locs) {ls : Array Slot} (hl : lv_has ls 4 [(3, .int 0), (2, .ref (ma 0)), (1, .ref h0), (0, .ref b)]) :
    W p l e room_1 s m #[Value.ref b] below meth c H locs 56 799 (lw_Z below #[Value.ref b] s) (F0 m 224 ls []) := by
  have C0 := C0
  obtain ⟨hx, hb, hr, hml, hown, hts, hX, hbl, hlocks, hgv⟩ := id C0
  have hts : ∀ w ∈ wsL_law, w.before #[Value.ref b] s = true := fun w h => hts w (wsL_law_in w h)
  have hown : s.vm.findClass RL = some m.cls := hown
  have hA : ∀ q : Nat, s.heap.size ≤ q → (fun q : Nat => s.heap.size ≤ q) q := fun _ h => h
  have hbA : ¬ (fun q : Nat => s.heap.size ≤ q) b := Nat.not_le.mpr hbl
  refine lv_aload_n hx hb dL_law_224 rfl (lv_at hl 2 rfl) ?_
  refine lv_aload_n hx hb dL_law_225 rfl (lv_at hl 3 rfl) ?_
  refine lv_iload_n hx hb dL_law_226 rfl (lv_at hl 0 rfl) ?_
  refine lv_iconst (v := 1) hx hb dL_law_227 (by decide) ?_
  refine lv_iadd hx hb dL_law_228 ?_
  refine va_sld hx hb hX hbl hbA hS (by first | exact g_in3_0 | exact g_in3_1 | exact g_in3_2) dL_law_229 ?_
  refine lv_aload_n hx hb dL_law_230 rfl (lv_at hl 3 rfl) ?_
  refine lv_iload_n hx hb dL_law_231 rfl (lv_at hl 0 rfl) ?_
  refine lv_iconst (v := 2) hx hb dL_law_232 (by decide) ?_
  refine lv_iadd hx hb dL_law_233 ?_
  refine va_sld hx hb hX hbl hbA hS (by first | exact g_in3_0 | exact g_in3_1 | exact g_in3_2) dL_law_234 ?_
  have hYY := g_part (X := mN K ma) (Y := gsN K h0 ar ac aq ra oa pa na) hP hD
  refine g_calliF (X := mN K ma) (Y := gsN K h0 ar ac aq ra oa pa na) (va_runV (As := [.int _, .int _]) (rest := []) ⟨hx, hb, hml, hown, hts⟩ (c_book l D K h0 ar ac aq ra oa pa na _ _ _) (cwV 2 hts gL_law_X2_book rfl rfl rfl (by decide +kernel) ⟨(Nat.le_of_ble_eq_true rfl), (Nat.le_of_ble_eq_true rfl)⟩) (g_preV hK hYY.1 hYY.2 (ci := 2) (q0 := 0) rfl rfl) rfl rfl hl.1 rfl (lv_room (Nat.le_of_ble_eq_true rfl)) dL_law_235 ⟨(Nat.le_of_ble_eq_true rfl), (Nat.le_of_ble_eq_true rfl)⟩) hP hD hS hA (fun r1 w1 H locs h1 hP hD hS => ?_)
  obtain ⟨hP, hD⟩ := g_swap hP hD
  refine lv_aload_n hx hb dL_law_238 rfl (lv_at hl 1 rfl) ?_
  refine lv_aload_n hx hb dL_law_239 rfl (lv_at hl 3 rfl) ?_
  refine lv_iload_n hx hb dL_law_240 rfl (lv_at hl 0 rfl) ?_
  refine lv_iconst (v := 1) hx hb dL_law_241 (by decide) ?_
  refine lv_iadd hx hb dL_law_242 ?_
  refine va_sld hx hb hX hbl hbA hS (by first | exact g_in3_0 | exact g_in3_1 | exact g_in3_2) dL_law_243 ?_
  refine lv_aload_n hx hb dL_law_244 rfl (lv_at hl 3 rfl) ?_
  refine lv_iload_n hx hb dL_law_245 rfl (lv_at hl 0 rfl) ?_
  refine lv_iconst (v := 2) hx hb dL_law_246 (by decide) ?_
  refine lv_iadd hx hb dL_law_247 ?_
  refine va_sld hx hb hX hbl hbA hS (by first | exact g_in3_0 | exact g_in3_1 | exact g_in3_2) dL_law_248 ?_
  have hYY := g_part (X := w1) (Y := mN K ma) hP hD
  refine g_calliF (X := w1) (Y := mN K ma) (va_runV (As := [.int _, .int _]) (rest := [.int _]) ⟨hx, hb, hml, hown, hts⟩ (m_book l D K ma _ _ _) (cwV 2 hts gL_law_X3_book rfl rfl rfl (by decide +kernel) ⟨(Nat.le_of_ble_eq_true rfl), (Nat.le_of_ble_eq_true rfl)⟩) (g_preV hK hYY.1 hYY.2 (ci := 3) (q0 := 0) rfl rfl) rfl rfl hl.1 rfl (lv_room (Nat.le_of_ble_eq_true rfl)) dL_law_249 ⟨(Nat.le_of_ble_eq_true rfl), (Nat.le_of_ble_eq_true rfl)⟩) hP hD hS hA (fun r2 w2 H locs h2 hP hD hS => ?_)
  refine lv_icmp_eq (tgt := 448) hx hb dL_law_252 (by decide) (fun c252 => ?_) (fun c252 => ?_)
  · refine lv_iinc (lv' := [(3, .int _), (2, .ref _), (1, .ref _), (0, .ref _)]) hx hb dL_law_448 hl (k := 0) rfl rfl (by decide) rfl (fun ls hl => ?_)
    refine lv_goto (tgt := 18) hx hb dL_law_451 (by decide) ?_
    exact law_end C0 (Nat.le_of_ble_eq_true rfl) (Nat.le_of_ble_eq_true rfl) hS (by decide) (lv_sub hl [0, 1, 2, 3] rfl)
  · exact absurd (h1.trans h2.symm) c252
set_option maxHeartbeats 4000000 in
set_option maxRecDepth 100000 in
theorem law_cancel {p : Program} {l : Launch} {e : Env} {s : State} {m : MethodId} {below : List Frame} {meth : Method} {c : Code} {b : Nat} {xs : Nat → Int32} (C0 : lw_At p s m meth c b 3 xs) {D : va_G} {K : gCl} (hK : va_K D vwCl (gT K) s) {h0 ar ac aq : Nat} {ra oa pa na ma : Nat → Nat} {H : Heap} {locs : List Loc} (hP : va_P D vwCl (mN K ma ++ gsN K h0 ar ac aq ra oa pa na) H) (hD : va_D (fun q : Nat => s.heap.size ≤ q) (mN K ma ++ gsN K h0 ar ac aq ra oa pa na)) (hS : va_S (fun q : Nat => s.heap.size ≤ q) s.heap H locs) {ls : Array Slot} (hl : lv_has ls 4 [(3, .int 0), (2, .ref (ma 0)), (1, .ref h0), (0, .ref b)]) :
    W p l e room_1 s m #[Value.ref b] below meth c H locs 56 799 (lw_Z below #[Value.ref b] s) (F0 m 257 ls []) := by
  have C0 := C0
  obtain ⟨hx, hb, hr, hml, hown, hts, hX, hbl, hlocks, hgv⟩ := id C0
  have hts : ∀ w ∈ wsL_law, w.before #[Value.ref b] s = true := fun w h => hts w (wsL_law_in w h)
  have hown : s.vm.findClass RL = some m.cls := hown
  have hA : ∀ q : Nat, s.heap.size ≤ q → (fun q : Nat => s.heap.size ≤ q) q := fun _ h => h
  have hbA : ¬ (fun q : Nat => s.heap.size ≤ q) b := Nat.not_le.mpr hbl
  refine lv_aload_n hx hb dL_law_257 rfl (lv_at hl 2 rfl) ?_
  refine lv_aload_n hx hb dL_law_258 rfl (lv_at hl 3 rfl) ?_
  refine lv_iload_n hx hb dL_law_259 rfl (lv_at hl 0 rfl) ?_
  refine lv_iconst (v := 1) hx hb dL_law_260 (by decide) ?_
  refine lv_iadd hx hb dL_law_261 ?_
  refine va_sld hx hb hX hbl hbA hS (by first | exact g_in3_0 | exact g_in3_1 | exact g_in3_2) dL_law_262 ?_
  have hYY := g_part (X := mN K ma) (Y := gsN K h0 ar ac aq ra oa pa na) hP hD
  refine g_calliF (X := mN K ma) (Y := gsN K h0 ar ac aq ra oa pa na) (va_runV (As := [.int _]) (rest := []) ⟨hx, hb, hml, hown, hts⟩ (c_cancel l D K h0 ar ac aq ra oa pa na _ _) (cwV 1 hts gL_law_X2_cancel rfl rfl rfl (by decide +kernel) ⟨(Nat.le_of_ble_eq_true rfl), (Nat.le_of_ble_eq_true rfl)⟩) (g_preV hK hYY.1 hYY.2 (ci := 2) (q0 := 0) rfl rfl) rfl rfl hl.1 rfl (lv_room (Nat.le_of_ble_eq_true rfl)) dL_law_263 ⟨(Nat.le_of_ble_eq_true rfl), (Nat.le_of_ble_eq_true rfl)⟩) hP hD hS hA (fun r1 w1 H locs h1 hP hD hS => ?_)
  obtain ⟨hP, hD⟩ := g_swap hP hD
  refine lv_aload_n hx hb dL_law_266 rfl (lv_at hl 1 rfl) ?_
  refine lv_aload_n hx hb dL_law_267 rfl (lv_at hl 3 rfl) ?_
  refine lv_iload_n hx hb dL_law_268 rfl (lv_at hl 0 rfl) ?_
  refine lv_iconst (v := 1) hx hb dL_law_269 (by decide) ?_
  refine lv_iadd hx hb dL_law_270 ?_
  refine va_sld hx hb hX hbl hbA hS (by first | exact g_in3_0 | exact g_in3_1 | exact g_in3_2) dL_law_271 ?_
  have hYY := g_part (X := w1) (Y := mN K ma) hP hD
  refine g_calliF (X := w1) (Y := mN K ma) (va_runV (As := [.int _]) (rest := [.int _]) ⟨hx, hb, hml, hown, hts⟩ (m_cancel l D K ma _ _) (cwV 1 hts gL_law_X3_cancel rfl rfl rfl (by decide +kernel) ⟨(Nat.le_of_ble_eq_true rfl), (Nat.le_of_ble_eq_true rfl)⟩) (g_preV hK hYY.1 hYY.2 (ci := 3) (q0 := 0) rfl rfl) rfl rfl hl.1 rfl (lv_room (Nat.le_of_ble_eq_true rfl)) dL_law_272 ⟨(Nat.le_of_ble_eq_true rfl), (Nat.le_of_ble_eq_true rfl)⟩) hP hD hS hA (fun r2 w2 H locs h2 hP hD hS => ?_)
  refine lv_icmp_eq (tgt := 448) hx hb dL_law_275 (by decide) (fun c275 => ?_) (fun c275 => ?_)
  · refine lv_iinc (lv' := [(3, .int _), (2, .ref _), (1, .ref _), (0, .ref _)]) hx hb dL_law_448 hl (k := 0) rfl rfl (by decide) rfl (fun ls hl => ?_)
    refine lv_goto (tgt := 18) hx hb dL_law_451 (by decide) ?_
    exact law_end C0 (Nat.le_of_ble_eq_true rfl) (Nat.le_of_ble_eq_true rfl) hS (by decide) (lv_sub hl [0, 1, 2, 3] rfl)
  · exact absurd (h1.trans h2.symm) c275
set_option maxHeartbeats 4000000 in
set_option maxRecDepth 100000 in
theorem law_leave {p : Program} {l : Launch} {e : Env} {s : State} {m : MethodId} {below : List Frame} {meth : Method} {c : Code} {b : Nat} {xs : Nat → Int32} (C0 : lw_At p s m meth c b 3 xs) {D : va_G} {K : gCl} (hK : va_K D vwCl (gT K) s) {h0 ar ac aq : Nat} {ra oa pa na ma : Nat → Nat} {H : Heap} {locs : List Loc} (hP : va_P D vwCl (mN K ma ++ gsN K h0 ar ac aq ra oa pa na) H) (hD : va_D (fun q : Nat => s.heap.size ≤ q) (mN K ma ++ gsN K h0 ar ac aq ra oa pa na)) (hS : va_S (fun q : Nat => s.heap.size ≤ q) s.heap H locs) {ls : Array Slot} (hl : lv_has ls 4 [(3, .int 0), (2, .ref (ma 0)), (1, .ref h0), (0, .ref b)]) :
    W p l e room_1 s m #[Value.ref b] below meth c H locs 56 799 (lw_Z below #[Value.ref b] s) (F0 m 280 ls []) := by
  have C0 := C0
  obtain ⟨hx, hb, hr, hml, hown, hts, hX, hbl, hlocks, hgv⟩ := id C0
  have hts : ∀ w ∈ wsL_law, w.before #[Value.ref b] s = true := fun w h => hts w (wsL_law_in w h)
  have hown : s.vm.findClass RL = some m.cls := hown
  have hA : ∀ q : Nat, s.heap.size ≤ q → (fun q : Nat => s.heap.size ≤ q) q := fun _ h => h
  have hbA : ¬ (fun q : Nat => s.heap.size ≤ q) b := Nat.not_le.mpr hbl
  refine lv_aload_n hx hb dL_law_280 rfl (lv_at hl 2 rfl) ?_
  refine lv_aload_n hx hb dL_law_281 rfl (lv_at hl 3 rfl) ?_
  refine lv_iload_n hx hb dL_law_282 rfl (lv_at hl 0 rfl) ?_
  refine lv_iconst (v := 1) hx hb dL_law_283 (by decide) ?_
  refine lv_iadd hx hb dL_law_284 ?_
  refine va_sld hx hb hX hbl hbA hS (by first | exact g_in3_0 | exact g_in3_1 | exact g_in3_2) dL_law_285 ?_
  have hYY := g_part (X := mN K ma) (Y := gsN K h0 ar ac aq ra oa pa na) hP hD
  refine g_calliF (X := mN K ma) (Y := gsN K h0 ar ac aq ra oa pa na) (va_runV (As := [.int _]) (rest := []) ⟨hx, hb, hml, hown, hts⟩ (c_leave l D K h0 ar ac aq ra oa pa na _ _) (cwV 1 hts gL_law_X2_leave rfl rfl rfl (by decide +kernel) ⟨(Nat.le_of_ble_eq_true rfl), (Nat.le_of_ble_eq_true rfl)⟩) (g_preV hK hYY.1 hYY.2 (ci := 2) (q0 := 0) rfl rfl) rfl rfl hl.1 rfl (lv_room (Nat.le_of_ble_eq_true rfl)) dL_law_286 ⟨(Nat.le_of_ble_eq_true rfl), (Nat.le_of_ble_eq_true rfl)⟩) hP hD hS hA (fun r1 w1 H locs h1 hP hD hS => ?_)
  obtain ⟨hP, hD⟩ := g_swap hP hD
  refine lv_aload_n hx hb dL_law_289 rfl (lv_at hl 1 rfl) ?_
  refine lv_aload_n hx hb dL_law_290 rfl (lv_at hl 3 rfl) ?_
  refine lv_iload_n hx hb dL_law_291 rfl (lv_at hl 0 rfl) ?_
  refine lv_iconst (v := 1) hx hb dL_law_292 (by decide) ?_
  refine lv_iadd hx hb dL_law_293 ?_
  refine va_sld hx hb hX hbl hbA hS (by first | exact g_in3_0 | exact g_in3_1 | exact g_in3_2) dL_law_294 ?_
  have hYY := g_part (X := w1) (Y := mN K ma) hP hD
  refine g_calliF (X := w1) (Y := mN K ma) (va_runV (As := [.int _]) (rest := [.int _]) ⟨hx, hb, hml, hown, hts⟩ (m_leave l D K ma _ _) (cwV 1 hts gL_law_X3_leave rfl rfl rfl (by decide +kernel) ⟨(Nat.le_of_ble_eq_true rfl), (Nat.le_of_ble_eq_true rfl)⟩) (g_preV hK hYY.1 hYY.2 (ci := 3) (q0 := 0) rfl rfl) rfl rfl hl.1 rfl (lv_room (Nat.le_of_ble_eq_true rfl)) dL_law_295 ⟨(Nat.le_of_ble_eq_true rfl), (Nat.le_of_ble_eq_true rfl)⟩) hP hD hS hA (fun r2 w2 H locs h2 hP hD hS => ?_)
  refine lv_icmp_eq (tgt := 448) hx hb dL_law_298 (by decide) (fun c298 => ?_) (fun c298 => ?_)
  · refine lv_iinc (lv' := [(3, .int _), (2, .ref _), (1, .ref _), (0, .ref _)]) hx hb dL_law_448 hl (k := 0) rfl rfl (by decide) rfl (fun ls hl => ?_)
    refine lv_goto (tgt := 18) hx hb dL_law_451 (by decide) ?_
    exact law_end C0 (Nat.le_of_ble_eq_true rfl) (Nat.le_of_ble_eq_true rfl) hS (by decide) (lv_sub hl [0, 1, 2, 3] rfl)
  · exact absurd (h1.trans h2.symm) c298
set_option maxHeartbeats 4000000 in
set_option maxRecDepth 100000 in
theorem law_seat {p : Program} {l : Launch} {e : Env} {s : State} {m : MethodId} {below : List Frame} {meth : Method} {c : Code} {b : Nat} {xs : Nat → Int32} (C0 : lw_At p s m meth c b 3 xs) {D : va_G} {K : gCl} (hK : va_K D vwCl (gT K) s) {h0 ar ac aq : Nat} {ra oa pa na ma : Nat → Nat} {H : Heap} {locs : List Loc} (hP : va_P D vwCl (mN K ma ++ gsN K h0 ar ac aq ra oa pa na) H) (hD : va_D (fun q : Nat => s.heap.size ≤ q) (mN K ma ++ gsN K h0 ar ac aq ra oa pa na)) (hS : va_S (fun q : Nat => s.heap.size ≤ q) s.heap H locs) {ls : Array Slot} (hl : lv_has ls 4 [(3, .int 0), (2, .ref (ma 0)), (1, .ref h0), (0, .ref b)]) :
    W p l e room_1 s m #[Value.ref b] below meth c H locs 56 799 (lw_Z below #[Value.ref b] s) (F0 m 303 ls []) := by
  have C0 := C0
  obtain ⟨hx, hb, hr, hml, hown, hts, hX, hbl, hlocks, hgv⟩ := id C0
  have hts : ∀ w ∈ wsL_law, w.before #[Value.ref b] s = true := fun w h => hts w (wsL_law_in w h)
  have hown : s.vm.findClass RL = some m.cls := hown
  have hA : ∀ q : Nat, s.heap.size ≤ q → (fun q : Nat => s.heap.size ≤ q) q := fun _ h => h
  have hbA : ¬ (fun q : Nat => s.heap.size ≤ q) b := Nat.not_le.mpr hbl
  refine lv_aload_n hx hb dL_law_303 rfl (lv_at hl 2 rfl) ?_
  refine lv_aload_n hx hb dL_law_304 rfl (lv_at hl 3 rfl) ?_
  refine lv_iload_n hx hb dL_law_305 rfl (lv_at hl 0 rfl) ?_
  refine lv_iconst (v := 1) hx hb dL_law_306 (by decide) ?_
  refine lv_iadd hx hb dL_law_307 ?_
  refine va_sld hx hb hX hbl hbA hS (by first | exact g_in3_0 | exact g_in3_1 | exact g_in3_2) dL_law_308 ?_
  refine lv_aload_n hx hb dL_law_309 rfl (lv_at hl 3 rfl) ?_
  refine lv_iload_n hx hb dL_law_310 rfl (lv_at hl 0 rfl) ?_
  refine lv_iconst (v := 2) hx hb dL_law_311 (by decide) ?_
  refine lv_iadd hx hb dL_law_312 ?_
  refine va_sld hx hb hX hbl hbA hS (by first | exact g_in3_0 | exact g_in3_1 | exact g_in3_2) dL_law_313 ?_
  have hYY := g_part (X := mN K ma) (Y := gsN K h0 ar ac aq ra oa pa na) hP hD
  refine g_calliF (X := mN K ma) (Y := gsN K h0 ar ac aq ra oa pa na) (va_runV (As := [.int _, .int _]) (rest := []) ⟨hx, hb, hml, hown, hts⟩ (c_seat l D K h0 ar ac aq ra oa pa na _ _ _) (cwV 2 hts gL_law_X2_seat rfl rfl rfl (by decide +kernel) ⟨(Nat.le_of_ble_eq_true rfl), (Nat.le_of_ble_eq_true rfl)⟩) (g_preV hK hYY.1 hYY.2 (ci := 2) (q0 := 0) rfl rfl) rfl rfl hl.1 rfl (lv_room (Nat.le_of_ble_eq_true rfl)) dL_law_314 ⟨(Nat.le_of_ble_eq_true rfl), (Nat.le_of_ble_eq_true rfl)⟩) hP hD hS hA (fun r1 w1 H locs h1 hP hD hS => ?_)
  obtain ⟨hP, hD⟩ := g_swap hP hD
  refine lv_aload_n hx hb dL_law_317 rfl (lv_at hl 1 rfl) ?_
  refine lv_aload_n hx hb dL_law_318 rfl (lv_at hl 3 rfl) ?_
  refine lv_iload_n hx hb dL_law_319 rfl (lv_at hl 0 rfl) ?_
  refine lv_iconst (v := 1) hx hb dL_law_320 (by decide) ?_
  refine lv_iadd hx hb dL_law_321 ?_
  refine va_sld hx hb hX hbl hbA hS (by first | exact g_in3_0 | exact g_in3_1 | exact g_in3_2) dL_law_322 ?_
  refine lv_aload_n hx hb dL_law_323 rfl (lv_at hl 3 rfl) ?_
  refine lv_iload_n hx hb dL_law_324 rfl (lv_at hl 0 rfl) ?_
  refine lv_iconst (v := 2) hx hb dL_law_325 (by decide) ?_
  refine lv_iadd hx hb dL_law_326 ?_
  refine va_sld hx hb hX hbl hbA hS (by first | exact g_in3_0 | exact g_in3_1 | exact g_in3_2) dL_law_327 ?_
  have hYY := g_part (X := w1) (Y := mN K ma) hP hD
  refine g_calliF (X := w1) (Y := mN K ma) (va_runV (As := [.int _, .int _]) (rest := [.int _]) ⟨hx, hb, hml, hown, hts⟩ (m_seat l D K ma _ _ _) (cwV 2 hts gL_law_X3_seat rfl rfl rfl (by decide +kernel) ⟨(Nat.le_of_ble_eq_true rfl), (Nat.le_of_ble_eq_true rfl)⟩) (g_preV hK hYY.1 hYY.2 (ci := 3) (q0 := 0) rfl rfl) rfl rfl hl.1 rfl (lv_room (Nat.le_of_ble_eq_true rfl)) dL_law_328 ⟨(Nat.le_of_ble_eq_true rfl), (Nat.le_of_ble_eq_true rfl)⟩) hP hD hS hA (fun r2 w2 H locs h2 hP hD hS => ?_)
  refine lv_icmp_eq (tgt := 448) hx hb dL_law_331 (by decide) (fun c331 => ?_) (fun c331 => ?_)
  · refine lv_iinc (lv' := [(3, .int _), (2, .ref _), (1, .ref _), (0, .ref _)]) hx hb dL_law_448 hl (k := 0) rfl rfl (by decide) rfl (fun ls hl => ?_)
    refine lv_goto (tgt := 18) hx hb dL_law_451 (by decide) ?_
    exact law_end C0 (Nat.le_of_ble_eq_true rfl) (Nat.le_of_ble_eq_true rfl) hS (by decide) (lv_sub hl [0, 1, 2, 3] rfl)
  · exact absurd (h1.trans h2.symm) c331
set_option maxHeartbeats 4000000 in
set_option maxRecDepth 100000 in
theorem law_has {p : Program} {l : Launch} {e : Env} {s : State} {m : MethodId} {below : List Frame} {meth : Method} {c : Code} {b : Nat} {xs : Nat → Int32} (C0 : lw_At p s m meth c b 3 xs) {D : va_G} {K : gCl} (hK : va_K D vwCl (gT K) s) {h0 ar ac aq : Nat} {ra oa pa na ma : Nat → Nat} {H : Heap} {locs : List Loc} (hP : va_P D vwCl (mN K ma ++ gsN K h0 ar ac aq ra oa pa na) H) (hD : va_D (fun q : Nat => s.heap.size ≤ q) (mN K ma ++ gsN K h0 ar ac aq ra oa pa na)) (hS : va_S (fun q : Nat => s.heap.size ≤ q) s.heap H locs) {ls : Array Slot} (hl : lv_has ls 4 [(3, .int 0), (2, .ref (ma 0)), (1, .ref h0), (0, .ref b)]) :
    W p l e room_1 s m #[Value.ref b] below meth c H locs 56 799 (lw_Z below #[Value.ref b] s) (F0 m 336 ls []) := by
  have C0 := C0
  obtain ⟨hx, hb, hr, hml, hown, hts, hX, hbl, hlocks, hgv⟩ := id C0
  have hts : ∀ w ∈ wsL_law, w.before #[Value.ref b] s = true := fun w h => hts w (wsL_law_in w h)
  have hown : s.vm.findClass RL = some m.cls := hown
  have hA : ∀ q : Nat, s.heap.size ≤ q → (fun q : Nat => s.heap.size ≤ q) q := fun _ h => h
  have hbA : ¬ (fun q : Nat => s.heap.size ≤ q) b := Nat.not_le.mpr hbl
  refine lv_aload_n hx hb dL_law_336 rfl (lv_at hl 2 rfl) ?_
  refine lv_aload_n hx hb dL_law_337 rfl (lv_at hl 3 rfl) ?_
  refine lv_iload_n hx hb dL_law_338 rfl (lv_at hl 0 rfl) ?_
  refine lv_iconst (v := 1) hx hb dL_law_339 (by decide) ?_
  refine lv_iadd hx hb dL_law_340 ?_
  refine va_sld hx hb hX hbl hbA hS (by first | exact g_in3_0 | exact g_in3_1 | exact g_in3_2) dL_law_341 ?_
  refine lv_aload_n hx hb dL_law_342 rfl (lv_at hl 3 rfl) ?_
  refine lv_iload_n hx hb dL_law_343 rfl (lv_at hl 0 rfl) ?_
  refine lv_iconst (v := 2) hx hb dL_law_344 (by decide) ?_
  refine lv_iadd hx hb dL_law_345 ?_
  refine va_sld hx hb hX hbl hbA hS (by first | exact g_in3_0 | exact g_in3_1 | exact g_in3_2) dL_law_346 ?_
  have hYY := g_part (X := mN K ma) (Y := gsN K h0 ar ac aq ra oa pa na) hP hD
  refine g_calliF (X := mN K ma) (Y := gsN K h0 ar ac aq ra oa pa na) (va_runV (As := [.int _, .int _]) (rest := []) ⟨hx, hb, hml, hown, hts⟩ (c_has l D K h0 ar ac aq ra oa pa na _ _ _) (cwV 2 hts gL_law_X2_has rfl rfl rfl (by decide +kernel) ⟨(Nat.le_of_ble_eq_true rfl), (Nat.le_of_ble_eq_true rfl)⟩) (g_preV hK hYY.1 hYY.2 (ci := 2) (q0 := 0) rfl rfl) rfl rfl hl.1 rfl (lv_room (Nat.le_of_ble_eq_true rfl)) dL_law_347 ⟨(Nat.le_of_ble_eq_true rfl), (Nat.le_of_ble_eq_true rfl)⟩) hP hD hS hA (fun r1 w1 H locs h1 hP hD hS => ?_)
  obtain ⟨hP, hD⟩ := g_swap hP hD
  refine lv_aload_n hx hb dL_law_350 rfl (lv_at hl 1 rfl) ?_
  refine lv_aload_n hx hb dL_law_351 rfl (lv_at hl 3 rfl) ?_
  refine lv_iload_n hx hb dL_law_352 rfl (lv_at hl 0 rfl) ?_
  refine lv_iconst (v := 1) hx hb dL_law_353 (by decide) ?_
  refine lv_iadd hx hb dL_law_354 ?_
  refine va_sld hx hb hX hbl hbA hS (by first | exact g_in3_0 | exact g_in3_1 | exact g_in3_2) dL_law_355 ?_
  refine lv_aload_n hx hb dL_law_356 rfl (lv_at hl 3 rfl) ?_
  refine lv_iload_n hx hb dL_law_357 rfl (lv_at hl 0 rfl) ?_
  refine lv_iconst (v := 2) hx hb dL_law_358 (by decide) ?_
  refine lv_iadd hx hb dL_law_359 ?_
  refine va_sld hx hb hX hbl hbA hS (by first | exact g_in3_0 | exact g_in3_1 | exact g_in3_2) dL_law_360 ?_
  have hYY := g_part (X := w1) (Y := mN K ma) hP hD
  refine g_calliF (X := w1) (Y := mN K ma) (va_runV (As := [.int _, .int _]) (rest := [.int _]) ⟨hx, hb, hml, hown, hts⟩ (m_has l D K ma _ _ _) (cwV 2 hts gL_law_X3_has rfl rfl rfl (by decide +kernel) ⟨(Nat.le_of_ble_eq_true rfl), (Nat.le_of_ble_eq_true rfl)⟩) (g_preV hK hYY.1 hYY.2 (ci := 3) (q0 := 0) rfl rfl) rfl rfl hl.1 rfl (lv_room (Nat.le_of_ble_eq_true rfl)) dL_law_361 ⟨(Nat.le_of_ble_eq_true rfl), (Nat.le_of_ble_eq_true rfl)⟩) hP hD hS hA (fun r2 w2 H locs h2 hP hD hS => ?_)
  refine lv_icmp_eq (tgt := 448) hx hb dL_law_364 (by decide) (fun c364 => ?_) (fun c364 => ?_)
  · refine lv_iinc (lv' := [(3, .int _), (2, .ref _), (1, .ref _), (0, .ref _)]) hx hb dL_law_448 hl (k := 0) rfl rfl (by decide) rfl (fun ls hl => ?_)
    refine lv_goto (tgt := 18) hx hb dL_law_451 (by decide) ?_
    exact law_end C0 (Nat.le_of_ble_eq_true rfl) (Nat.le_of_ble_eq_true rfl) hS (by decide) (lv_sub hl [0, 1, 2, 3] rfl)
  · exact absurd (h1.trans h2.symm) c364
set_option maxHeartbeats 4000000 in
set_option maxRecDepth 100000 in
theorem law_about {p : Program} {l : Launch} {e : Env} {s : State} {m : MethodId} {below : List Frame} {meth : Method} {c : Code} {b : Nat} {xs : Nat → Int32} (C0 : lw_At p s m meth c b 3 xs) {D : va_G} {K : gCl} (hK : va_K D vwCl (gT K) s) {h0 ar ac aq : Nat} {ra oa pa na ma : Nat → Nat} {H : Heap} {locs : List Loc} (hP : va_P D vwCl (mN K ma ++ gsN K h0 ar ac aq ra oa pa na) H) (hD : va_D (fun q : Nat => s.heap.size ≤ q) (mN K ma ++ gsN K h0 ar ac aq ra oa pa na)) (hS : va_S (fun q : Nat => s.heap.size ≤ q) s.heap H locs) {ls : Array Slot} (hl : lv_has ls 4 [(3, .int 0), (2, .ref (ma 0)), (1, .ref h0), (0, .ref b)]) :
    W p l e room_1 s m #[Value.ref b] below meth c H locs 56 799 (lw_Z below #[Value.ref b] s) (F0 m 369 ls []) := by
  have C0 := C0
  obtain ⟨hx, hb, hr, hml, hown, hts, hX, hbl, hlocks, hgv⟩ := id C0
  have hts : ∀ w ∈ wsL_law, w.before #[Value.ref b] s = true := fun w h => hts w (wsL_law_in w h)
  have hown : s.vm.findClass RL = some m.cls := hown
  have hA : ∀ q : Nat, s.heap.size ≤ q → (fun q : Nat => s.heap.size ≤ q) q := fun _ h => h
  have hbA : ¬ (fun q : Nat => s.heap.size ≤ q) b := Nat.not_le.mpr hbl
  refine lv_aload_n hx hb dL_law_369 rfl (lv_at hl 2 rfl) ?_
  refine lv_aload_n hx hb dL_law_370 rfl (lv_at hl 3 rfl) ?_
  refine lv_iload_n hx hb dL_law_371 rfl (lv_at hl 0 rfl) ?_
  refine lv_iconst (v := 1) hx hb dL_law_372 (by decide) ?_
  refine lv_iadd hx hb dL_law_373 ?_
  refine va_sld hx hb hX hbl hbA hS (by first | exact g_in3_0 | exact g_in3_1 | exact g_in3_2) dL_law_374 ?_
  refine lv_aload_n hx hb dL_law_375 rfl (lv_at hl 3 rfl) ?_
  refine lv_iload_n hx hb dL_law_376 rfl (lv_at hl 0 rfl) ?_
  refine lv_iconst (v := 2) hx hb dL_law_377 (by decide) ?_
  refine lv_iadd hx hb dL_law_378 ?_
  refine va_sld hx hb hX hbl hbA hS (by first | exact g_in3_0 | exact g_in3_1 | exact g_in3_2) dL_law_379 ?_
  have hYY := g_part (X := mN K ma) (Y := gsN K h0 ar ac aq ra oa pa na) hP hD
  refine g_calliF (X := mN K ma) (Y := gsN K h0 ar ac aq ra oa pa na) (va_runV (As := [.int _, .int _]) (rest := []) ⟨hx, hb, hml, hown, hts⟩ (c_about l D K h0 ar ac aq ra oa pa na _ _ _) (cwV 2 hts gL_law_X2_about rfl rfl rfl (by decide +kernel) ⟨(Nat.le_of_ble_eq_true rfl), (Nat.le_of_ble_eq_true rfl)⟩) (g_preV hK hYY.1 hYY.2 (ci := 2) (q0 := 0) rfl rfl) rfl rfl hl.1 rfl (lv_room (Nat.le_of_ble_eq_true rfl)) dL_law_380 ⟨(Nat.le_of_ble_eq_true rfl), (Nat.le_of_ble_eq_true rfl)⟩) hP hD hS hA (fun r1 w1 H locs h1 hP hD hS => ?_)
  obtain ⟨hP, hD⟩ := g_swap hP hD
  refine lv_aload_n hx hb dL_law_383 rfl (lv_at hl 1 rfl) ?_
  refine lv_aload_n hx hb dL_law_384 rfl (lv_at hl 3 rfl) ?_
  refine lv_iload_n hx hb dL_law_385 rfl (lv_at hl 0 rfl) ?_
  refine lv_iconst (v := 1) hx hb dL_law_386 (by decide) ?_
  refine lv_iadd hx hb dL_law_387 ?_
  refine va_sld hx hb hX hbl hbA hS (by first | exact g_in3_0 | exact g_in3_1 | exact g_in3_2) dL_law_388 ?_
  refine lv_aload_n hx hb dL_law_389 rfl (lv_at hl 3 rfl) ?_
  refine lv_iload_n hx hb dL_law_390 rfl (lv_at hl 0 rfl) ?_
  refine lv_iconst (v := 2) hx hb dL_law_391 (by decide) ?_
  refine lv_iadd hx hb dL_law_392 ?_
  refine va_sld hx hb hX hbl hbA hS (by first | exact g_in3_0 | exact g_in3_1 | exact g_in3_2) dL_law_393 ?_
  have hYY := g_part (X := w1) (Y := mN K ma) hP hD
  refine g_calliF (X := w1) (Y := mN K ma) (va_runV (As := [.int _, .int _]) (rest := [.int _]) ⟨hx, hb, hml, hown, hts⟩ (m_about l D K ma _ _ _) (cwV 2 hts gL_law_X3_about rfl rfl rfl (by decide +kernel) ⟨(Nat.le_of_ble_eq_true rfl), (Nat.le_of_ble_eq_true rfl)⟩) (g_preV hK hYY.1 hYY.2 (ci := 3) (q0 := 0) rfl rfl) rfl rfl hl.1 rfl (lv_room (Nat.le_of_ble_eq_true rfl)) dL_law_394 ⟨(Nat.le_of_ble_eq_true rfl), (Nat.le_of_ble_eq_true rfl)⟩) hP hD hS hA (fun r2 w2 H locs h2 hP hD hS => ?_)
  refine lv_icmp_eq (tgt := 448) hx hb dL_law_397 (by decide) (fun c397 => ?_) (fun c397 => ?_)
  · refine lv_iinc (lv' := [(3, .int _), (2, .ref _), (1, .ref _), (0, .ref _)]) hx hb dL_law_448 hl (k := 0) rfl rfl (by decide) rfl (fun ls hl => ?_)
    refine lv_goto (tgt := 18) hx hb dL_law_451 (by decide) ?_
    exact law_end C0 (Nat.le_of_ble_eq_true rfl) (Nat.le_of_ble_eq_true rfl) hS (by decide) (lv_sub hl [0, 1, 2, 3] rfl)
  · exact absurd (h1.trans h2.symm) c397
set_option maxHeartbeats 4000000 in
set_option maxRecDepth 100000 in
theorem law_told {p : Program} {l : Launch} {e : Env} {s : State} {m : MethodId} {below : List Frame} {meth : Method} {c : Code} {b : Nat} {xs : Nat → Int32} (C0 : lw_At p s m meth c b 3 xs) {D : va_G} {K : gCl} (hK : va_K D vwCl (gT K) s) {h0 ar ac aq : Nat} {ra oa pa na ma : Nat → Nat} {H : Heap} {locs : List Loc} (hP : va_P D vwCl (mN K ma ++ gsN K h0 ar ac aq ra oa pa na) H) (hD : va_D (fun q : Nat => s.heap.size ≤ q) (mN K ma ++ gsN K h0 ar ac aq ra oa pa na)) (hS : va_S (fun q : Nat => s.heap.size ≤ q) s.heap H locs) {ls : Array Slot} (hl : lv_has ls 4 [(3, .int 0), (2, .ref (ma 0)), (1, .ref h0), (0, .ref b)]) :
    W p l e room_1 s m #[Value.ref b] below meth c H locs 56 799 (lw_Z below #[Value.ref b] s) (F0 m 402 ls []) := by
  have C0 := C0
  obtain ⟨hx, hb, hr, hml, hown, hts, hX, hbl, hlocks, hgv⟩ := id C0
  have hts : ∀ w ∈ wsL_law, w.before #[Value.ref b] s = true := fun w h => hts w (wsL_law_in w h)
  have hown : s.vm.findClass RL = some m.cls := hown
  have hA : ∀ q : Nat, s.heap.size ≤ q → (fun q : Nat => s.heap.size ≤ q) q := fun _ h => h
  have hbA : ¬ (fun q : Nat => s.heap.size ≤ q) b := Nat.not_le.mpr hbl
  refine lv_aload_n hx hb dL_law_402 rfl (lv_at hl 2 rfl) ?_
  refine lv_aload_n hx hb dL_law_403 rfl (lv_at hl 3 rfl) ?_
  refine lv_iload_n hx hb dL_law_404 rfl (lv_at hl 0 rfl) ?_
  refine lv_iconst (v := 1) hx hb dL_law_405 (by decide) ?_
  refine lv_iadd hx hb dL_law_406 ?_
  refine va_sld hx hb hX hbl hbA hS (by first | exact g_in3_0 | exact g_in3_1 | exact g_in3_2) dL_law_407 ?_
  have hYY := g_part (X := mN K ma) (Y := gsN K h0 ar ac aq ra oa pa na) hP hD
  refine g_calliF (X := mN K ma) (Y := gsN K h0 ar ac aq ra oa pa na) (va_runV (As := [.int _]) (rest := []) ⟨hx, hb, hml, hown, hts⟩ (c_told l D K h0 ar ac aq ra oa pa na _ _) (cwV 1 hts gL_law_X2_told rfl rfl rfl (by decide +kernel) ⟨(Nat.le_of_ble_eq_true rfl), (Nat.le_of_ble_eq_true rfl)⟩) (g_preV hK hYY.1 hYY.2 (ci := 2) (q0 := 0) rfl rfl) rfl rfl hl.1 rfl (lv_room (Nat.le_of_ble_eq_true rfl)) dL_law_408 ⟨(Nat.le_of_ble_eq_true rfl), (Nat.le_of_ble_eq_true rfl)⟩) hP hD hS hA (fun r1 w1 H locs h1 hP hD hS => ?_)
  obtain ⟨hP, hD⟩ := g_swap hP hD
  refine lv_aload_n hx hb dL_law_411 rfl (lv_at hl 1 rfl) ?_
  refine lv_aload_n hx hb dL_law_412 rfl (lv_at hl 3 rfl) ?_
  refine lv_iload_n hx hb dL_law_413 rfl (lv_at hl 0 rfl) ?_
  refine lv_iconst (v := 1) hx hb dL_law_414 (by decide) ?_
  refine lv_iadd hx hb dL_law_415 ?_
  refine va_sld hx hb hX hbl hbA hS (by first | exact g_in3_0 | exact g_in3_1 | exact g_in3_2) dL_law_416 ?_
  have hYY := g_part (X := w1) (Y := mN K ma) hP hD
  refine g_calliF (X := w1) (Y := mN K ma) (va_runV (As := [.int _]) (rest := [.int _]) ⟨hx, hb, hml, hown, hts⟩ (m_told l D K ma _ _) (cwV 1 hts gL_law_X3_told rfl rfl rfl (by decide +kernel) ⟨(Nat.le_of_ble_eq_true rfl), (Nat.le_of_ble_eq_true rfl)⟩) (g_preV hK hYY.1 hYY.2 (ci := 3) (q0 := 0) rfl rfl) rfl rfl hl.1 rfl (lv_room (Nat.le_of_ble_eq_true rfl)) dL_law_417 ⟨(Nat.le_of_ble_eq_true rfl), (Nat.le_of_ble_eq_true rfl)⟩) hP hD hS hA (fun r2 w2 H locs h2 hP hD hS => ?_)
  refine lv_icmp_eq (tgt := 448) hx hb dL_law_420 (by decide) (fun c420 => ?_) (fun c420 => ?_)
  · refine lv_iinc (lv' := [(3, .int _), (2, .ref _), (1, .ref _), (0, .ref _)]) hx hb dL_law_448 hl (k := 0) rfl rfl (by decide) rfl (fun ls hl => ?_)
    refine lv_goto (tgt := 18) hx hb dL_law_451 (by decide) ?_
    exact law_end C0 (Nat.le_of_ble_eq_true rfl) (Nat.le_of_ble_eq_true rfl) hS (by decide) (lv_sub hl [0, 1, 2, 3] rfl)
  · exact absurd (h1.trans h2.symm) c420
set_option maxHeartbeats 4000000 in
set_option maxRecDepth 100000 in
theorem law_waiting {p : Program} {l : Launch} {e : Env} {s : State} {m : MethodId} {below : List Frame} {meth : Method} {c : Code} {b : Nat} {xs : Nat → Int32} (C0 : lw_At p s m meth c b 3 xs) {D : va_G} {K : gCl} (hK : va_K D vwCl (gT K) s) {h0 ar ac aq : Nat} {ra oa pa na ma : Nat → Nat} {H : Heap} {locs : List Loc} (hP : va_P D vwCl (mN K ma ++ gsN K h0 ar ac aq ra oa pa na) H) (hD : va_D (fun q : Nat => s.heap.size ≤ q) (mN K ma ++ gsN K h0 ar ac aq ra oa pa na)) (hS : va_S (fun q : Nat => s.heap.size ≤ q) s.heap H locs) {ls : Array Slot} (hl : lv_has ls 4 [(3, .int 0), (2, .ref (ma 0)), (1, .ref h0), (0, .ref b)]) :
    W p l e room_1 s m #[Value.ref b] below meth c H locs 56 799 (lw_Z below #[Value.ref b] s) (F0 m 425 ls []) := by
  have C0 := C0
  obtain ⟨hx, hb, hr, hml, hown, hts, hX, hbl, hlocks, hgv⟩ := id C0
  have hts : ∀ w ∈ wsL_law, w.before #[Value.ref b] s = true := fun w h => hts w (wsL_law_in w h)
  have hown : s.vm.findClass RL = some m.cls := hown
  have hA : ∀ q : Nat, s.heap.size ≤ q → (fun q : Nat => s.heap.size ≤ q) q := fun _ h => h
  have hbA : ¬ (fun q : Nat => s.heap.size ≤ q) b := Nat.not_le.mpr hbl
  refine lv_aload_n hx hb dL_law_425 rfl (lv_at hl 2 rfl) ?_
  refine lv_aload_n hx hb dL_law_426 rfl (lv_at hl 3 rfl) ?_
  refine lv_iload_n hx hb dL_law_427 rfl (lv_at hl 0 rfl) ?_
  refine lv_iconst (v := 1) hx hb dL_law_428 (by decide) ?_
  refine lv_iadd hx hb dL_law_429 ?_
  refine va_sld hx hb hX hbl hbA hS (by first | exact g_in3_0 | exact g_in3_1 | exact g_in3_2) dL_law_430 ?_
  have hYY := g_part (X := mN K ma) (Y := gsN K h0 ar ac aq ra oa pa na) hP hD
  refine g_calliF (X := mN K ma) (Y := gsN K h0 ar ac aq ra oa pa na) (va_runV (As := [.int _]) (rest := []) ⟨hx, hb, hml, hown, hts⟩ (c_waiting l D K h0 ar ac aq ra oa pa na _ _) (cwV 1 hts gL_law_X2_waiting rfl rfl rfl (by decide +kernel) ⟨(Nat.le_of_ble_eq_true rfl), (Nat.le_of_ble_eq_true rfl)⟩) (g_preV hK hYY.1 hYY.2 (ci := 2) (q0 := 0) rfl rfl) rfl rfl hl.1 rfl (lv_room (Nat.le_of_ble_eq_true rfl)) dL_law_431 ⟨(Nat.le_of_ble_eq_true rfl), (Nat.le_of_ble_eq_true rfl)⟩) hP hD hS hA (fun r1 w1 H locs h1 hP hD hS => ?_)
  obtain ⟨hP, hD⟩ := g_swap hP hD
  refine lv_aload_n hx hb dL_law_434 rfl (lv_at hl 1 rfl) ?_
  refine lv_aload_n hx hb dL_law_435 rfl (lv_at hl 3 rfl) ?_
  refine lv_iload_n hx hb dL_law_436 rfl (lv_at hl 0 rfl) ?_
  refine lv_iconst (v := 1) hx hb dL_law_437 (by decide) ?_
  refine lv_iadd hx hb dL_law_438 ?_
  refine va_sld hx hb hX hbl hbA hS (by first | exact g_in3_0 | exact g_in3_1 | exact g_in3_2) dL_law_439 ?_
  have hYY := g_part (X := w1) (Y := mN K ma) hP hD
  refine g_calliF (X := w1) (Y := mN K ma) (va_runV (As := [.int _]) (rest := [.int _]) ⟨hx, hb, hml, hown, hts⟩ (m_waiting l D K ma _ _) (cwV 1 hts gL_law_X3_waiting rfl rfl rfl (by decide +kernel) ⟨(Nat.le_of_ble_eq_true rfl), (Nat.le_of_ble_eq_true rfl)⟩) (g_preV hK hYY.1 hYY.2 (ci := 3) (q0 := 0) rfl rfl) rfl rfl hl.1 rfl (lv_room (Nat.le_of_ble_eq_true rfl)) dL_law_440 ⟨(Nat.le_of_ble_eq_true rfl), (Nat.le_of_ble_eq_true rfl)⟩) hP hD hS hA (fun r2 w2 H locs h2 hP hD hS => ?_)
  refine lv_icmp_eq (tgt := 448) hx hb dL_law_443 (by decide) (fun c443 => ?_) (fun c443 => ?_)
  · refine lv_iinc (lv' := [(3, .int _), (2, .ref _), (1, .ref _), (0, .ref _)]) hx hb dL_law_448 hl (k := 0) rfl rfl (by decide) rfl (fun ls hl => ?_)
    refine lv_goto (tgt := 18) hx hb dL_law_451 (by decide) ?_
    exact law_end C0 (Nat.le_of_ble_eq_true rfl) (Nat.le_of_ble_eq_true rfl) hS (by decide) (lv_sub hl [0, 1, 2, 3] rfl)
  · exact absurd (h1.trans h2.symm) c443
set_option maxHeartbeats 4000000 in
set_option maxRecDepth 100000 in
theorem law_step {p : Program} {l : Launch} {e : Env} {s : State} {m : MethodId} {below : List Frame} {meth : Method} {c : Code} {b : Nat} {xs : Nat → Int32} (C0 : lw_At p s m meth c b 3 xs) {H : Heap} {locs : List Loc} (hS : va_S (fun q : Nat => s.heap.size ≤ q) s.heap H locs) {x2 x1 : Nat} {ls : Array Slot} (hl : lv_has ls 4 [(3, .int 0), (2, .ref x2), (1, .ref x1), (0, .ref b)]) :
    W p l e room_1 s m #[Value.ref b] below meth c H locs 56 799 (lw_Z below #[Value.ref b] s) (F0 m 448 ls []) := by
  obtain ⟨hx, hb, hr, hml, hown, hts, hX, hbl, hlocks, hgv⟩ := id C0
  refine lv_iinc (lv' := [(3, .int _), (2, .ref _), (1, .ref _), (0, .ref _)]) hx hb dL_law_448 hl (k := 0) rfl rfl (by decide) rfl (fun ls hl => ?_)
  refine lv_goto (tgt := 18) hx hb dL_law_451 (by decide) ?_
  exact law_end C0 (Nat.le_of_ble_eq_true rfl) (Nat.le_of_ble_eq_true rfl) hS (by decide) (lv_sub hl [0, 1, 2, 3] rfl)
set_option maxHeartbeats 4000000 in
set_option maxRecDepth 100000 in
/-- one call is spelled -/
theorem law_one {p : Program} {l : Launch} {e : Env} {s : State} {m : MethodId} {below : List Frame} {meth : Method} {c : Code} {b : Nat} {xs : Nat → Int32} (C0 : lw_At p s m meth c b 3 xs) {D : va_G} {K : gCl} (hK : va_K D vwCl (gT K) s) {h0 ar ac aq : Nat} {ra oa pa na ma : Nat → Nat} {H : Heap} {locs : List Loc} (hP : va_P D vwCl (mN K ma ++ gsN K h0 ar ac aq ra oa pa na) H) (hD : va_D (fun q : Nat => s.heap.size ≤ q) (mN K ma ++ gsN K h0 ar ac aq ra oa pa na)) (hS : va_S (fun q : Nat => s.heap.size ≤ q) s.heap H locs) {ls : Array Slot} (hl : lv_has ls 4 [(3, .int 0), (2, .ref (ma 0)), (1, .ref h0), (0, .ref b)]) :
    W p l e room_1 s m #[Value.ref b] below meth c H locs 56 799 (lw_Z below #[Value.ref b] s) (F0 m 18 ls []) := by
  have C0 := C0
  obtain ⟨hx, hb, hr, hml, hown, hts, hX, hbl, hlocks, hgv⟩ := id C0
  have hts : ∀ w ∈ wsL_law, w.before #[Value.ref b] s = true := fun w h => hts w (wsL_law_in w h)
  have hown : s.vm.findClass RL = some m.cls := hown
  have hA : ∀ q : Nat, s.heap.size ≤ q → (fun q : Nat => s.heap.size ≤ q) q := fun _ h => h
  have hbA : ¬ (fun q : Nat => s.heap.size ≤ q) b := Nat.not_le.mpr hbl
  refine lv_iload_n hx hb dL_law_18 rfl (lv_at hl 0 rfl) ?_
  refine lv_aload_n hx hb dL_law_19 rfl (lv_at hl 3 rfl) ?_
  refine va_slen hx hb hX hbl hbA hS dL_law_20 ?_
  refine lv_iconst (v := 3) hx hb dL_law_21 (by decide) ?_
  refine lv_isub hx hb dL_law_22 ?_
  refine lv_icmp_gt (tgt := 454) hx hb dL_law_23 (by decide) (fun c23 => absurd c23 (by decide)) (fun c23 => ?_)
  refine lv_aload_n hx hb dL_law_26 rfl (lv_at hl 3 rfl) ?_
  refine lv_iload_n hx hb dL_law_27 rfl (lv_at hl 0 rfl) ?_
  refine va_sld hx hb hX hbl hbA hS g_in3_0 dL_law_28 ?_
  refine lv_bipush (v := 15) hx hb dL_law_29 (by decide) ?_
  refine lv_iand hx hb dL_law_31 ?_
  obtain ⟨j, hj, ej⟩ := pk_andE (xs (0 : Int32).toNatClampNeg) (m := 15) 4 (by decide)
  rcases (show j = 0 ∨ j = 1 ∨ j = 2 ∨ j = 3 ∨ j = 4 ∨ j = 5 ∨ j = 6 ∨ j = 7 ∨ j = 8 ∨ j = 9 ∨ j = 10 ∨ j = 11 ∨ j = 12 ∨ j = 13 ∨ j = 14 ∨ j = 15 by omega) with rfl | rfl | rfl | rfl | rfl | rfl | rfl | rfl | rfl | rfl | rfl | rfl | rfl | rfl | rfl | rfl
  · rw [ej]
    refine lv_tableIn (off := 64) (tgt := 96) hx hb dL_law_32 (by decide) (by decide) rfl (by decide) ?_
    exact law_open C0 hK hP hD hS hl
  · rw [ej]
    refine lv_tableIn (off := 97) (tgt := 129) hx hb dL_law_32 (by decide) (by decide) rfl (by decide) ?_
    exact law_shut C0 hK hP hD hS hl
  · rw [ej]
    refine lv_tableIn (off := 120) (tgt := 152) hx hb dL_law_32 (by decide) (by decide) rfl (by decide) ?_
    exact law_strict C0 hK hP hD hS hl
  · rw [ej]
    refine lv_tableIn (off := 169) (tgt := 201) hx hb dL_law_32 (by decide) (by decide) rfl (by decide) ?_
    exact law_list C0 hK hP hD hS hl
  · rw [ej]
    refine lv_tableIn (off := 192) (tgt := 224) hx hb dL_law_32 (by decide) (by decide) rfl (by decide) ?_
    exact law_book C0 hK hP hD hS hl
  · rw [ej]
    refine lv_tableIn (off := 225) (tgt := 257) hx hb dL_law_32 (by decide) (by decide) rfl (by decide) ?_
    exact law_cancel C0 hK hP hD hS hl
  · rw [ej]
    refine lv_tableIn (off := 248) (tgt := 280) hx hb dL_law_32 (by decide) (by decide) rfl (by decide) ?_
    exact law_leave C0 hK hP hD hS hl
  · rw [ej]
    refine lv_tableIn (off := 271) (tgt := 303) hx hb dL_law_32 (by decide) (by decide) rfl (by decide) ?_
    exact law_seat C0 hK hP hD hS hl
  · rw [ej]
    refine lv_tableIn (off := 304) (tgt := 336) hx hb dL_law_32 (by decide) (by decide) rfl (by decide) ?_
    exact law_has C0 hK hP hD hS hl
  · rw [ej]
    refine lv_tableIn (off := 337) (tgt := 369) hx hb dL_law_32 (by decide) (by decide) rfl (by decide) ?_
    exact law_about C0 hK hP hD hS hl
  · rw [ej]
    refine lv_tableIn (off := 370) (tgt := 402) hx hb dL_law_32 (by decide) (by decide) rfl (by decide) ?_
    exact law_told C0 hK hP hD hS hl
  · rw [ej]
    refine lv_tableIn (off := 393) (tgt := 425) hx hb dL_law_32 (by decide) (by decide) rfl (by decide) ?_
    exact law_waiting C0 hK hP hD hS hl
  · rw [ej]
    refine lv_tableOut (tgt := 448) hx hb dL_law_32 (Or.inr (by decide)) (by decide) ?_
    exact law_step C0 hS hl
  · rw [ej]
    refine lv_tableOut (tgt := 448) hx hb dL_law_32 (Or.inr (by decide)) (by decide) ?_
    exact law_step C0 hS hl
  · rw [ej]
    refine lv_tableOut (tgt := 448) hx hb dL_law_32 (Or.inr (by decide)) (by decide) ?_
    exact law_step C0 hS hl
  · rw [ej]
    refine lv_tableOut (tgt := 448) hx hb dL_law_32 (Or.inr (by decide)) (by decide) ?_
    exact law_step C0 hS hl
