/-! THE CLAIM OUT OF ONE WALK OF THE LAW'S BODY. Your part is whole_start (and what it stands on); all else here is the same for every law, but numbers. -/
def R_law : String := "GroupSeatsLaw"
def lw_P (b : Addr) (xs : List Int32) (args : Array Value) (s : State) : Prop := args = #[.ref b] ∧ s.IntsAt b xs ∧ xs.length ≤ 1536 ∧ (Jvm.Cond.and given_1 narrow_1).before args s = true
def lw_Q (_ : Array Value) (s : State) (o : Outcome) (t : State) : Prop := o = .returned (some (.int 1)) ∧ Framed s o t [] 600000 7302250
def lw_Z (below : List Frame) (a : Array Value) (s : State) : State → Prop := fun t => ∃ o, t.status = .running ∧ Ended t below o ∧ lw_Q a s o t
/-- the law's own end, with 1 on the stack, nothing written that was there before, its room as the claim has it -/
theorem lw_ret {p : Program} {l : Launch} {e : Env} {s : State} {m : MethodId} {below : List Frame} {meth : Method} {c : Code} {b : Nat} (hx : p.tables.exec = Jvm.exec) (hb : c.code = code) (hr : meth.sig.returnType = ret) (hlocks : meth.locks = false) {pc : Nat} {H : Heap} {ls : Array Slot} (hdg : decode code pc = .ok (.ireturn, 1)) : W p l e room_1 s m #[Value.ref b] below meth c H [] 600000 7302250 (lw_Z below #[Value.ref b] s) (F0 m pc ls [.int 1]) := by
  intro T hT X
  obtain ⟨fs, hret, hrun, hended, hW, hframe⟩ := X.leave (v := some (.int 1)) (hlocks := hlocks) (fun h => by rw [hr] at h; cases h)
  have hmeth' : T.vm.method? m = some meth := X.method'
  refine ⟨T.setFrames fs, ?_, .returned (some (.int 1)), hrun, hended, rfl, ⟨_, rfl⟩, hW, hframe⟩
  jvm_step X.here [X.here.top, hx, hb, hdg, hmeth', hr, ret, narrow_b1]
  (try refine ⟨rfl, ?_⟩); (try refine ⟨rfl, ?_⟩)
  first | (intro acts; rw [hret _ acts rfl rfl rfl]) | rw [hret _ _ rfl rfl rfl]
  exact Steps.refl _
/-- what holds at the law's entry: the machine, the code, the tables' words (any of lw_tbl by 'hts w (by decide +kernel)'), the script of L ints xs at the cell b, what the Statement gives of the start (any of its parts by flat_of_before) -/
def lw_At (p : Program) (s : State) (m : MethodId) (meth : Method) (c : Code) (b L : Nat) (xs : Nat → Int32) : Prop :=
  p.tables.exec = Jvm.exec ∧ c.code = code ∧ meth.sig.returnType = ret ∧ c.maxLocals = 4 ∧ s.vm.findClass R_law = some m.cls ∧ (∀ w ∈ lw_tbl, w.before #[Value.ref b] s = true) ∧ va_X b L xs s s.heap ∧ b < s.heap.size ∧ meth.locks = false ∧ (Jvm.Cond.and given_1 narrow_1).before #[Value.ref b] s = true
section GCF
variable {p : Program} {l : Launch} {e : Env} {R : Room} {s : State} {m : MethodId} {args : Array Value} {below : List Frame} {meth : Method} {c : Code} {H : Heap} {locs : List Loc} {cells slots : Nat} {Q : State → Prop}
variable {pc : Nat} {ls : Array Slot} {rest st0 : List Value} {a : Array Value} {A : Nat → Prop} {H0 : Heap} {mc ms : Nat}
variable {D : va_G} {cl : List vw_C} {tys : List (ClassId × FieldType)} {ws : va_W}
theorem g_calliF {X Y : va_W} {post : Int32 → va_W → Prop} (hr : va_Run p l e R s m args below meth c H locs cells slots mc ms (F0 m pc ls st0) rest (va_Qi post (gB D cl tys (va_A Y H.size)) (va_A Y H.size) a) (va_A Y H.size)) (hP : va_P D cl (X ++ Y) H) (hD : va_D A (X ++ Y)) (hS : va_S A H0 H locs) (hA : ∀ q : Nat, H0.size ≤ q → A q)
    (kk : ∀ (r : Int32) (w : va_W) (H1 : Heap) (locs1 : List Loc), post r w → va_P D cl (X ++ w) H1 → va_D A (X ++ w) → va_S A H0 H1 locs1 → W p l e R s m args below meth c H1 locs1 (cells + mc) (slots + ms) Q (F0 m (pc + 3) ls (.int r :: rest))) : W p l e R s m args below meth c H locs cells slots Q (F0 m pc ls st0) := by
  have hF : ∀ q : Nat, va_A Y H.size q → A q := fun q h => by
    rcases h with ⟨k, x, hk⟩ | h
    · exact hD.2 (X.length + k) (q, x) (by rw [List.getElem?_append_right (by omega), Nat.add_sub_cancel_left]; exact hk)
    · exact hA q (Nat.le_trans hS.1 h)
  refine va_calli hr hS (fun q _ h => hF q h) hF (fun r w t H1 locs1 ht hvm hw hB hz1 hk1 hS1 => ?_)
  obtain ⟨hP1, hK1, hD1⟩ := hB
  rw [ht] at hP1
  obtain ⟨hP2, hD2⟩ := g_frame hP hD hF hk1 hP1 hD1
  exact kk r w H1 locs1 hw hP2 hD2 hS1
end GCF
theorem g_arrI {args : Array Value} {s : State} (h : (Cond.arrayClass .int).before args s = true) : ∃ c : ClassId, ArrOfT s c .int ∧ va_RA s c .int := by
  obtain ⟨c, k, comp, h1, h2, h3⟩ := Cond.arrayClass_spec h
  exact ⟨c, fun n z => ⟨fun k h => (by cases h), k, h2, comp, h3⟩, h1⟩
theorem g_arrZ {args : Array Value} {s : State} (h : (Cond.arrayClass .boolean).before args s = true) : ∃ c : ClassId, ArrOfT s c .boolean ∧ va_RA s c .boolean := by
  obtain ⟨c, k, comp, h1, h2, h3⟩ := Cond.arrayClass_spec h
  exact ⟨c, fun n z => ⟨fun k h => (by cases h), k, h2, comp, h3⟩, h1⟩
theorem g_arrO {args : Array Value} {s : State} {C : String} (h : (Cond.arrayOver (.object C)).before args s = true) : ∃ c : ClassId, ArrOfT s c (.object C) ∧ va_RA s c (.object C) := by
  obtain ⟨comp, c, k, h1, h2, h3, h4, h5⟩ := Cond.arrayOver_spec h
  exact ⟨c, fun n z => ⟨fun k h => (by cases h), k, h3, comp, h4⟩, k, comp, h3, h4, h1, h5⟩
/-! the receivers -/
theorem C_pre {s : State} {H : Heap} {D : va_G} {K : gCl} {A : Nat → Prop} {S : HS} {w : va_W} {h0 : Nat} {As : List Value} (hK : va_K D vwCl (gT K) s) (hP : va_P D vwCl w H) (hD : va_D A w) (hC : CW K h0 S w) : PreV s H RX2 h0 (va_Pc (.ref h0 :: As) (gPre D vwCl (gT K) w H.size)) As := by
  obtain ⟨a, ho, bk, pl, pn, pm, nm, co, qu, rfl, rfl, -⟩ := hC
  exact g_preV hK hP hD (ci := 2) (q0 := 0) rfl rfl
theorem M_pre {s : State} {H : Heap} {D : va_G} {K : gCl} {A : Nat → Prop} {S : HS} {w : va_W} {m0 : Nat} {As : List Value} (hK : va_K D vwCl (gT K) s) (hP : va_P D vwCl w H) (hD : va_D A w) (hC : MW K m0 S w) : PreV s H RX3 m0 (va_Pc (.ref m0 :: As) (gPre D vwCl (gT K) w H.size)) As := by
  obtain ⟨ma, th, wl, fd, op, st, zs, ho, ba, se, lx, pe, lt, le, wa, ta, rfl, rfl, -⟩ := hC
  exact g_preV hK hP hD (ci := 3) (q0 := 0) rfl rfl
theorem in_L1 {k L : Nat} (hk : k + 3 ≤ L) (hL : L < 2 ^ 31) : vp_in (nI k + 1) L := by rw [nI_1]; exact vp_in_nI (by omega) hL
theorem in_L2 {k L : Nat} (hk : k + 3 ≤ L) (hL : L < 2 ^ 31) : vp_in (nI k + 2) L := by rw [show (2 : Int32) = nI 2 from rfl, nI_add]; exact vp_in_nI (by omega) hL
theorem gt_L {k L : Nat} (hk : k < 2 ^ 30) (hL : L < 2 ^ 30) : Int32.ofNat L - 3 < nI k ↔ L < k + 3 := by
  rw [show Int32.ofNat L = nI L from rfl, show (3 : Int32) = nI 3 from rfl, Int32.lt_iff_toInt_lt, pk_sub_toInt hL (by decide), nI_toInt (by omega)]
  omega
theorem inc_3 {k : Nat} : nI k + Int32.ofInt 3 = nI (k + 3) := by
  rw [show Int32.ofInt 3 = nI 3 from rfl, nI_add]
/-! the beginning -/
theorem IV_new : IVS (fun _ => 0, fun _ => 0, fun _ _ => 0, fun _ => 0, 0, [], [], 0, 0) :=
  ⟨fun _ _ => by simp, fun _ _ _ _ => rfl, fun r hr hz => absurd rfl hz, fun r hr hz => absurd rfl hz, by simp, by simp, by simp, fun P hP => by simp at hP, by simp, fun r hr => by simp at hr⟩
theorem CW_new {K : gCl} {h0 : Nat} (ar ac aq : Nat) (ra oa pa na : Nat → Nat) : CW K h0 (fun _ => 0, fun _ => 0, fun _ _ => 0, fun _ => 0, 0, [], [], 0, 0) (gsN K h0 ar ac aq ra oa pa na) := by
  refine ⟨fun i => if i = 0 then (fun j => if j = 0 then h0 else if j = 1 then ar else if j = 2 then ac else aq) else if i = 1 then ra else if i = 2 then oa else if i = 3 then pa else na, fun _ => 0, fun _ => 0, fun _ => 0, fun _ => 0, fun _ => 0, fun _ _ => 0, 0, fun k => k + 1, rfl, rfl, ⟨fun i hi => by show i + 1 < 9; omega, by decide, fun i k _ _ e => by have e2 : i + 1 = k + 1 := e; omega, fun i _ => by show i + 1 ≠ 0; omega⟩, fun i P h => by simp at h, rfl, isL_nil⟩
theorem MW_new {K : gCl} (ma : Nat → Nat) : MW K (ma 0) (fun _ => 0, fun _ => 0, fun _ _ => 0, fun _ => 0, 0, [], [], 0, 0) (mN K ma) :=
  ⟨ma, 0, 0, 0, fun _ => 0, fun _ => 0, fun _ => 0, fun _ => 0, fun _ => 0, fun _ => 0, fun _ => 0, fun _ => 0, fun _ => 0, fun _ => 0, fun _ => 0, fun _ => 0, rfl, rfl, fun r _ => ⟨rfl, fun q => absurd rfl q⟩, isL_nil, fun i P h => by simp at h⟩
set_option maxHeartbeats 4000000 in
set_option maxRecDepth 100000 in
theorem law_open {p : Program} {l : Launch} {e : Env} {s : State} {m : MethodId} {below : List Frame} {meth : Method} {c : Code} {b L : Nat} {xs : Nat → Int32} (hL : L ≤ 1536) (C0 : lw_At p s m meth c b L xs) {D : va_G} {K : gCl} (hK : va_K D vwCl (gT K) s) {h0 m0 : Nat} {k : Nat} (hk : k + 3 ≤ L) (hE : ∀ (S : HS) (w1 w2 : va_W) (H : Heap) (locs : List Loc), IVS S → CW K h0 S w1 → MW K m0 S w2 → va_P D vwCl (w2 ++ w1) H → va_D (fun q : Nat => s.heap.size ≤ q) (w2 ++ w1) → va_S (fun q : Nat => s.heap.size ≤ q) s.heap H locs → ∀ (ls : Array Slot), lv_has ls 4 [(3, .int (nI k)), (2, .ref m0), (1, .ref h0), (0, .ref b)] → W p l e room_1 s m #[Value.ref b] below meth c H locs 56 799 (lw_Z below #[Value.ref b] s) (F0 m 448 ls [])) {z : Nat → Nat} {sd : Nat → Int32} {ow : Nat → Nat → Int32} {cn : Nat → Int32} {B : Nat} {q : List Pty} {li : List Nat} {mh : Nat} {fl : Int32} {w1 w2 : va_W} (hI : IV z ow B q li mh) (hC : CW K h0 (z, sd, ow, cn, B, q, li, mh, fl) w1) (hW : MW K m0 (z, sd, ow, cn, B, q, li, mh, fl) w2) {H : Heap} {locs : List Loc} (hP : va_P D vwCl (w2 ++ w1) H) (hD : va_D (fun q : Nat => s.heap.size ≤ q) (w2 ++ w1)) (hS : va_S (fun q : Nat => s.heap.size ≤ q) s.heap H locs) {ls : Array Slot} (hl : lv_has ls 4 [(3, .int (nI k)), (2, .ref m0), (1, .ref h0), (0, .ref b)]) :
    W p l e room_1 s m #[Value.ref b] below meth c H locs 56 799 (lw_Z below #[Value.ref b] s) (F0 m 96 ls []) := by
  obtain ⟨hx, hb, hr, hml, hown, hts, hX, hbl, hlocks, hgv⟩ := id C0
  have hts : ∀ w ∈ wsL_law, w.before #[Value.ref b] s = true := fun w h => hts w (wsL_law_in w h)
  have hown : s.vm.findClass RL = some m.cls := hown
  have hA : ∀ q : Nat, s.heap.size ≤ q → (fun q : Nat => s.heap.size ≤ q) q := fun _ h => h
  have hbA : ¬ (fun q : Nat => s.heap.size ≤ q) b := Nat.not_le.mpr hbl
  refine lv_aload_n hx hb dL_law_96 rfl (lv_at hl 2 rfl) ?_
  refine lv_aload_n hx hb dL_law_97 rfl (lv_at hl 3 rfl) ?_
  refine lv_iload_n hx hb dL_law_98 rfl (lv_at hl 0 rfl) ?_
  refine lv_iconst (v := 1) hx hb dL_law_99 (by decide) ?_
  refine lv_iadd hx hb dL_law_100 ?_
  refine va_sld hx hb hX hbl hbA hS (in_L1 hk (by omega)) dL_law_101 ?_
  refine lv_aload_n hx hb dL_law_102 rfl (lv_at hl 3 rfl) ?_
  refine lv_iload_n hx hb dL_law_103 rfl (lv_at hl 0 rfl) ?_
  refine lv_iconst (v := 2) hx hb dL_law_104 (by decide) ?_
  refine lv_iadd hx hb dL_law_105 ?_
  refine va_sld hx hb hX hbl hbA hS (in_L2 hk (by omega)) dL_law_106 ?_
  have hYY := g_part (X := w2) (Y := w1) hP hD
  refine g_calliF (X := w2) (Y := w1) (va_runV (As := [.int _, .int _]) (rest := []) ⟨hx, hb, hml, hown, hts⟩ (H_open l D K _ _ _ hI hC) (cwV 2 hts gL_law_X2_open rfl rfl rfl (by decide +kernel) ⟨(Nat.le_of_ble_eq_true rfl), (Nat.le_of_ble_eq_true rfl)⟩) (C_pre hK hYY.1 hYY.2 hC) rfl rfl hl.1 rfl (lv_room (Nat.le_of_ble_eq_true rfl)) dL_law_107 ⟨(Nat.le_of_ble_eq_true rfl), (Nat.le_of_ble_eq_true rfl)⟩) hP hD hS hA (fun r1 w3 H locs h1 hP hD hS => ?_)
  obtain ⟨hP, hD⟩ := g_swap hP hD
  refine lv_aload_n hx hb dL_law_110 rfl (lv_at hl 1 rfl) ?_
  refine lv_aload_n hx hb dL_law_111 rfl (lv_at hl 3 rfl) ?_
  refine lv_iload_n hx hb dL_law_112 rfl (lv_at hl 0 rfl) ?_
  refine lv_iconst (v := 1) hx hb dL_law_113 (by decide) ?_
  refine lv_iadd hx hb dL_law_114 ?_
  refine va_sld hx hb hX hbl hbA hS (in_L1 hk (by omega)) dL_law_115 ?_
  refine lv_aload_n hx hb dL_law_116 rfl (lv_at hl 3 rfl) ?_
  refine lv_iload_n hx hb dL_law_117 rfl (lv_at hl 0 rfl) ?_
  refine lv_iconst (v := 2) hx hb dL_law_118 (by decide) ?_
  refine lv_iadd hx hb dL_law_119 ?_
  refine va_sld hx hb hX hbl hbA hS (in_L2 hk (by omega)) dL_law_120 ?_
  have hYY := g_part (X := w3) (Y := w2) hP hD
  refine g_calliF (X := w3) (Y := w2) (va_runV (As := [.int _, .int _]) (rest := [.int _]) ⟨hx, hb, hml, hown, hts⟩ (M_open l D K _ _ _ hI hW) (cwV 2 hts gL_law_X3_open rfl rfl rfl (by decide +kernel) ⟨(Nat.le_of_ble_eq_true rfl), (Nat.le_of_ble_eq_true rfl)⟩) (M_pre hK hYY.1 hYY.2 hW) rfl rfl hl.1 rfl (lv_room (Nat.le_of_ble_eq_true rfl)) dL_law_121 ⟨(Nat.le_of_ble_eq_true rfl), (Nat.le_of_ble_eq_true rfl)⟩) hP hD hS hA (fun r2 w4 H locs h2 hP hD hS => ?_)
  refine lv_icmp_eq (tgt := 448) hx hb dL_law_124 (by decide) (fun c124 => ?_) (fun c124 => ?_)
  · obtain ⟨hP, hD⟩ := g_swap hP hD
    exact hE _ w3 w4 H locs (opOpen_IV hI _ _) h1.2 h2.2 hP hD hS ls (lv_sub hl [0, 1, 2, 3] rfl)
  · exact absurd (h1.1.trans h2.1.symm) c124
set_option maxHeartbeats 4000000 in
set_option maxRecDepth 100000 in
theorem law_shut {p : Program} {l : Launch} {e : Env} {s : State} {m : MethodId} {below : List Frame} {meth : Method} {c : Code} {b L : Nat} {xs : Nat → Int32} (hL : L ≤ 1536) (C0 : lw_At p s m meth c b L xs) {D : va_G} {K : gCl} (hK : va_K D vwCl (gT K) s) {h0 m0 : Nat} {k : Nat} (hk : k + 3 ≤ L) (hE : ∀ (S : HS) (w1 w2 : va_W) (H : Heap) (locs : List Loc), IVS S → CW K h0 S w1 → MW K m0 S w2 → va_P D vwCl (w2 ++ w1) H → va_D (fun q : Nat => s.heap.size ≤ q) (w2 ++ w1) → va_S (fun q : Nat => s.heap.size ≤ q) s.heap H locs → ∀ (ls : Array Slot), lv_has ls 4 [(3, .int (nI k)), (2, .ref m0), (1, .ref h0), (0, .ref b)] → W p l e room_1 s m #[Value.ref b] below meth c H locs 56 799 (lw_Z below #[Value.ref b] s) (F0 m 448 ls [])) {z : Nat → Nat} {sd : Nat → Int32} {ow : Nat → Nat → Int32} {cn : Nat → Int32} {B : Nat} {q : List Pty} {li : List Nat} {mh : Nat} {fl : Int32} {w1 w2 : va_W} (hI : IV z ow B q li mh) (hC : CW K h0 (z, sd, ow, cn, B, q, li, mh, fl) w1) (hW : MW K m0 (z, sd, ow, cn, B, q, li, mh, fl) w2) {H : Heap} {locs : List Loc} (hP : va_P D vwCl (w2 ++ w1) H) (hD : va_D (fun q : Nat => s.heap.size ≤ q) (w2 ++ w1)) (hS : va_S (fun q : Nat => s.heap.size ≤ q) s.heap H locs) {ls : Array Slot} (hl : lv_has ls 4 [(3, .int (nI k)), (2, .ref m0), (1, .ref h0), (0, .ref b)]) :
    W p l e room_1 s m #[Value.ref b] below meth c H locs 56 799 (lw_Z below #[Value.ref b] s) (F0 m 129 ls []) := by
  obtain ⟨hx, hb, hr, hml, hown, hts, hX, hbl, hlocks, hgv⟩ := id C0
  have hts : ∀ w ∈ wsL_law, w.before #[Value.ref b] s = true := fun w h => hts w (wsL_law_in w h)
  have hown : s.vm.findClass RL = some m.cls := hown
  have hA : ∀ q : Nat, s.heap.size ≤ q → (fun q : Nat => s.heap.size ≤ q) q := fun _ h => h
  have hbA : ¬ (fun q : Nat => s.heap.size ≤ q) b := Nat.not_le.mpr hbl
  refine lv_aload_n hx hb dL_law_129 rfl (lv_at hl 2 rfl) ?_
  refine lv_aload_n hx hb dL_law_130 rfl (lv_at hl 3 rfl) ?_
  refine lv_iload_n hx hb dL_law_131 rfl (lv_at hl 0 rfl) ?_
  refine lv_iconst (v := 1) hx hb dL_law_132 (by decide) ?_
  refine lv_iadd hx hb dL_law_133 ?_
  refine va_sld hx hb hX hbl hbA hS (in_L1 hk (by omega)) dL_law_134 ?_
  have hYY := g_part (X := w2) (Y := w1) hP hD
  refine g_calliF (X := w2) (Y := w1) (va_runV (As := [.int _]) (rest := []) ⟨hx, hb, hml, hown, hts⟩ (H_shut l D K _ _ hI hC) (cwV 1 hts gL_law_X2_shut rfl rfl rfl (by decide +kernel) ⟨(Nat.le_of_ble_eq_true rfl), (Nat.le_of_ble_eq_true rfl)⟩) (C_pre hK hYY.1 hYY.2 hC) rfl rfl hl.1 rfl (lv_room (Nat.le_of_ble_eq_true rfl)) dL_law_135 ⟨(Nat.le_of_ble_eq_true rfl), (Nat.le_of_ble_eq_true rfl)⟩) hP hD hS hA (fun r1 w3 H locs h1 hP hD hS => ?_)
  obtain ⟨hP, hD⟩ := g_swap hP hD
  refine lv_pop hx hb dL_law_138 rfl ?_
  refine lv_aload_n hx hb dL_law_139 rfl (lv_at hl 1 rfl) ?_
  refine lv_aload_n hx hb dL_law_140 rfl (lv_at hl 3 rfl) ?_
  refine lv_iload_n hx hb dL_law_141 rfl (lv_at hl 0 rfl) ?_
  refine lv_iconst (v := 1) hx hb dL_law_142 (by decide) ?_
  refine lv_iadd hx hb dL_law_143 ?_
  refine va_sld hx hb hX hbl hbA hS (in_L1 hk (by omega)) dL_law_144 ?_
  have hYY := g_part (X := w3) (Y := w2) hP hD
  refine g_calliF (X := w3) (Y := w2) (va_runV (As := [.int _]) (rest := []) ⟨hx, hb, hml, hown, hts⟩ (M_shut l D K _ _ hI hW) (cwV 1 hts gL_law_X3_shut rfl rfl rfl (by decide +kernel) ⟨(Nat.le_of_ble_eq_true rfl), (Nat.le_of_ble_eq_true rfl)⟩) (M_pre hK hYY.1 hYY.2 hW) rfl rfl hl.1 rfl (lv_room (Nat.le_of_ble_eq_true rfl)) dL_law_145 ⟨(Nat.le_of_ble_eq_true rfl), (Nat.le_of_ble_eq_true rfl)⟩) hP hD hS hA (fun r2 w4 H locs h2 hP hD hS => ?_)
  refine lv_pop hx hb dL_law_148 rfl ?_
  refine lv_goto (tgt := 448) hx hb dL_law_149 (by decide) ?_
  obtain ⟨hP, hD⟩ := g_swap hP hD
  exact hE _ w3 w4 H locs (opShut_IV hI _) h1.2 h2.2 hP hD hS ls (lv_sub hl [0, 1, 2, 3] rfl)
set_option maxHeartbeats 4000000 in
set_option maxRecDepth 100000 in
theorem law_strict {p : Program} {l : Launch} {e : Env} {s : State} {m : MethodId} {below : List Frame} {meth : Method} {c : Code} {b L : Nat} {xs : Nat → Int32} (hL : L ≤ 1536) (C0 : lw_At p s m meth c b L xs) {D : va_G} {K : gCl} (hK : va_K D vwCl (gT K) s) {h0 m0 : Nat} {k : Nat} (hk : k + 3 ≤ L) (hE : ∀ (S : HS) (w1 w2 : va_W) (H : Heap) (locs : List Loc), IVS S → CW K h0 S w1 → MW K m0 S w2 → va_P D vwCl (w2 ++ w1) H → va_D (fun q : Nat => s.heap.size ≤ q) (w2 ++ w1) → va_S (fun q : Nat => s.heap.size ≤ q) s.heap H locs → ∀ (ls : Array Slot), lv_has ls 4 [(3, .int (nI k)), (2, .ref m0), (1, .ref h0), (0, .ref b)] → W p l e room_1 s m #[Value.ref b] below meth c H locs 56 799 (lw_Z below #[Value.ref b] s) (F0 m 448 ls [])) {z : Nat → Nat} {sd : Nat → Int32} {ow : Nat → Nat → Int32} {cn : Nat → Int32} {B : Nat} {q : List Pty} {li : List Nat} {mh : Nat} {fl : Int32} {w1 w2 : va_W} (hI : IV z ow B q li mh) (hC : CW K h0 (z, sd, ow, cn, B, q, li, mh, fl) w1) (hW : MW K m0 (z, sd, ow, cn, B, q, li, mh, fl) w2) {H : Heap} {locs : List Loc} (hP : va_P D vwCl (w2 ++ w1) H) (hD : va_D (fun q : Nat => s.heap.size ≤ q) (w2 ++ w1)) (hS : va_S (fun q : Nat => s.heap.size ≤ q) s.heap H locs) {ls : Array Slot} (hl : lv_has ls 4 [(3, .int (nI k)), (2, .ref m0), (1, .ref h0), (0, .ref b)]) :
    W p l e room_1 s m #[Value.ref b] below meth c H locs 56 799 (lw_Z below #[Value.ref b] s) (F0 m 152 ls []) := by
  obtain ⟨hx, hb, hr, hml, hown, hts, hX, hbl, hlocks, hgv⟩ := id C0
  have hts : ∀ w ∈ wsL_law, w.before #[Value.ref b] s = true := fun w h => hts w (wsL_law_in w h)
  have hown : s.vm.findClass RL = some m.cls := hown
  have hA : ∀ q : Nat, s.heap.size ≤ q → (fun q : Nat => s.heap.size ≤ q) q := fun _ h => h
  have hbA : ¬ (fun q : Nat => s.heap.size ≤ q) b := Nat.not_le.mpr hbl
  refine lv_aload_n hx hb dL_law_152 rfl (lv_at hl 2 rfl) ?_
  refine lv_aload_n hx hb dL_law_153 rfl (lv_at hl 3 rfl) ?_
  refine lv_iload_n hx hb dL_law_154 rfl (lv_at hl 0 rfl) ?_
  refine lv_iconst (v := 1) hx hb dL_law_155 (by decide) ?_
  refine lv_iadd hx hb dL_law_156 ?_
  refine va_sld hx hb hX hbl hbA hS (in_L1 hk (by omega)) dL_law_157 ?_
  refine lv_aload_n hx hb dL_law_158 rfl (lv_at hl 3 rfl) ?_
  refine lv_iload_n hx hb dL_law_159 rfl (lv_at hl 0 rfl) ?_
  refine lv_iconst (v := 2) hx hb dL_law_160 (by decide) ?_
  refine lv_iadd hx hb dL_law_161 ?_
  refine va_sld hx hb hX hbl hbA hS (in_L2 hk (by omega)) dL_law_162 ?_
  refine lv_if_eq (tgt := 170) hx hb dL_law_163 (by decide) (fun c163 => ?_) (fun c163 => ?_)
  · refine lv_iconst (v := 0) hx hb dL_law_170 (by decide) ?_
    have hYY := g_part (X := w2) (Y := w1) hP hD
    refine g_calliF (X := w2) (Y := w1) (va_runV (As := [.int _, .int _]) (rest := []) ⟨hx, hb, hml, hown, hts⟩ (H_strict l D K _ _ _ hI hC (by first | exact Or.inl rfl | exact Or.inr rfl)) (cwV 2 hts gL_law_X2_strict rfl rfl rfl (by decide +kernel) ⟨(Nat.le_of_ble_eq_true rfl), (Nat.le_of_ble_eq_true rfl)⟩) (C_pre hK hYY.1 hYY.2 hC) rfl rfl hl.1 rfl (lv_room (Nat.le_of_ble_eq_true rfl)) dL_law_171 ⟨(Nat.le_of_ble_eq_true rfl), (Nat.le_of_ble_eq_true rfl)⟩) hP hD hS hA (fun r1 w3 H locs h1 hP hD hS => ?_)
    obtain ⟨hP, hD⟩ := g_swap hP hD
    refine lv_pop hx hb dL_law_174 rfl ?_
    refine lv_aload_n hx hb dL_law_175 rfl (lv_at hl 1 rfl) ?_
    refine lv_aload_n hx hb dL_law_176 rfl (lv_at hl 3 rfl) ?_
    refine lv_iload_n hx hb dL_law_177 rfl (lv_at hl 0 rfl) ?_
    refine lv_iconst (v := 1) hx hb dL_law_178 (by decide) ?_
    refine lv_iadd hx hb dL_law_179 ?_
    refine va_sld hx hb hX hbl hbA hS (in_L1 hk (by omega)) dL_law_180 ?_
    refine lv_aload_n hx hb dL_law_181 rfl (lv_at hl 3 rfl) ?_
    refine lv_iload_n hx hb dL_law_182 rfl (lv_at hl 0 rfl) ?_
    refine lv_iconst (v := 2) hx hb dL_law_183 (by decide) ?_
    refine lv_iadd hx hb dL_law_184 ?_
    refine va_sld hx hb hX hbl hbA hS (in_L2 hk (by omega)) dL_law_185 ?_
    refine lv_if_eq (tgt := 193) hx hb dL_law_186 (by decide) (fun c186 => ?_) (fun c186 => ?_)
    · refine lv_iconst (v := 0) hx hb dL_law_193 (by decide) ?_
      have hYY := g_part (X := w3) (Y := w2) hP hD
      refine g_calliF (X := w3) (Y := w2) (va_runV (As := [.int _, .int _]) (rest := []) ⟨hx, hb, hml, hown, hts⟩ (M_strict l D K _ _ _ hI hW (by first | exact Or.inl rfl | exact Or.inr rfl)) (cwV 2 hts gL_law_X3_strict rfl rfl rfl (by decide +kernel) ⟨(Nat.le_of_ble_eq_true rfl), (Nat.le_of_ble_eq_true rfl)⟩) (M_pre hK hYY.1 hYY.2 hW) rfl rfl hl.1 rfl (lv_room (Nat.le_of_ble_eq_true rfl)) dL_law_194 ⟨(Nat.le_of_ble_eq_true rfl), (Nat.le_of_ble_eq_true rfl)⟩) hP hD hS hA (fun r2 w4 H locs h2 hP hD hS => ?_)
      refine lv_pop hx hb dL_law_197 rfl ?_
      refine lv_goto (tgt := 448) hx hb dL_law_198 (by decide) ?_
      obtain ⟨hP, hD⟩ := g_swap hP hD
      exact hE _ w3 w4 H locs (opStrict_IV hI _ _) h1.2 h2.2 hP hD hS ls (lv_sub hl [0, 1, 2, 3] rfl)
    · exact absurd c163 c186
  · refine lv_iconst (v := 1) hx hb dL_law_166 (by decide) ?_
    refine lv_goto (tgt := 171) hx hb dL_law_167 (by decide) ?_
    have hYY := g_part (X := w2) (Y := w1) hP hD
    refine g_calliF (X := w2) (Y := w1) (va_runV (As := [.int _, .int _]) (rest := []) ⟨hx, hb, hml, hown, hts⟩ (H_strict l D K _ _ _ hI hC (by first | exact Or.inl rfl | exact Or.inr rfl)) (cwV 2 hts gL_law_X2_strict rfl rfl rfl (by decide +kernel) ⟨(Nat.le_of_ble_eq_true rfl), (Nat.le_of_ble_eq_true rfl)⟩) (C_pre hK hYY.1 hYY.2 hC) rfl rfl hl.1 rfl (lv_room (Nat.le_of_ble_eq_true rfl)) dL_law_171 ⟨(Nat.le_of_ble_eq_true rfl), (Nat.le_of_ble_eq_true rfl)⟩) hP hD hS hA (fun r1 w3 H locs h1 hP hD hS => ?_)
    obtain ⟨hP, hD⟩ := g_swap hP hD
    refine lv_pop hx hb dL_law_174 rfl ?_
    refine lv_aload_n hx hb dL_law_175 rfl (lv_at hl 1 rfl) ?_
    refine lv_aload_n hx hb dL_law_176 rfl (lv_at hl 3 rfl) ?_
    refine lv_iload_n hx hb dL_law_177 rfl (lv_at hl 0 rfl) ?_
    refine lv_iconst (v := 1) hx hb dL_law_178 (by decide) ?_
    refine lv_iadd hx hb dL_law_179 ?_
    refine va_sld hx hb hX hbl hbA hS (in_L1 hk (by omega)) dL_law_180 ?_
    refine lv_aload_n hx hb dL_law_181 rfl (lv_at hl 3 rfl) ?_
    refine lv_iload_n hx hb dL_law_182 rfl (lv_at hl 0 rfl) ?_
    refine lv_iconst (v := 2) hx hb dL_law_183 (by decide) ?_
    refine lv_iadd hx hb dL_law_184 ?_
    refine va_sld hx hb hX hbl hbA hS (in_L2 hk (by omega)) dL_law_185 ?_
    refine lv_if_eq (tgt := 193) hx hb dL_law_186 (by decide) (fun c186 => ?_) (fun c186 => ?_)
    · exact absurd c186 c163
    · refine lv_iconst (v := 1) hx hb dL_law_189 (by decide) ?_
      refine lv_goto (tgt := 194) hx hb dL_law_190 (by decide) ?_
      have hYY := g_part (X := w3) (Y := w2) hP hD
      refine g_calliF (X := w3) (Y := w2) (va_runV (As := [.int _, .int _]) (rest := []) ⟨hx, hb, hml, hown, hts⟩ (M_strict l D K _ _ _ hI hW (by first | exact Or.inl rfl | exact Or.inr rfl)) (cwV 2 hts gL_law_X3_strict rfl rfl rfl (by decide +kernel) ⟨(Nat.le_of_ble_eq_true rfl), (Nat.le_of_ble_eq_true rfl)⟩) (M_pre hK hYY.1 hYY.2 hW) rfl rfl hl.1 rfl (lv_room (Nat.le_of_ble_eq_true rfl)) dL_law_194 ⟨(Nat.le_of_ble_eq_true rfl), (Nat.le_of_ble_eq_true rfl)⟩) hP hD hS hA (fun r2 w4 H locs h2 hP hD hS => ?_)
      refine lv_pop hx hb dL_law_197 rfl ?_
      refine lv_goto (tgt := 448) hx hb dL_law_198 (by decide) ?_
      obtain ⟨hP, hD⟩ := g_swap hP hD
      exact hE _ w3 w4 H locs (opStrict_IV hI _ _) h1.2 h2.2 hP hD hS ls (lv_sub hl [0, 1, 2, 3] rfl)
set_option maxHeartbeats 4000000 in
set_option maxRecDepth 100000 in
theorem law_list {p : Program} {l : Launch} {e : Env} {s : State} {m : MethodId} {below : List Frame} {meth : Method} {c : Code} {b L : Nat} {xs : Nat → Int32} (hL : L ≤ 1536) (C0 : lw_At p s m meth c b L xs) {D : va_G} {K : gCl} (hK : va_K D vwCl (gT K) s) {h0 m0 : Nat} {k : Nat} (hk : k + 3 ≤ L) (hE : ∀ (S : HS) (w1 w2 : va_W) (H : Heap) (locs : List Loc), IVS S → CW K h0 S w1 → MW K m0 S w2 → va_P D vwCl (w2 ++ w1) H → va_D (fun q : Nat => s.heap.size ≤ q) (w2 ++ w1) → va_S (fun q : Nat => s.heap.size ≤ q) s.heap H locs → ∀ (ls : Array Slot), lv_has ls 4 [(3, .int (nI k)), (2, .ref m0), (1, .ref h0), (0, .ref b)] → W p l e room_1 s m #[Value.ref b] below meth c H locs 56 799 (lw_Z below #[Value.ref b] s) (F0 m 448 ls [])) {z : Nat → Nat} {sd : Nat → Int32} {ow : Nat → Nat → Int32} {cn : Nat → Int32} {B : Nat} {q : List Pty} {li : List Nat} {mh : Nat} {fl : Int32} {w1 w2 : va_W} (hI : IV z ow B q li mh) (hC : CW K h0 (z, sd, ow, cn, B, q, li, mh, fl) w1) (hW : MW K m0 (z, sd, ow, cn, B, q, li, mh, fl) w2) {H : Heap} {locs : List Loc} (hP : va_P D vwCl (w2 ++ w1) H) (hD : va_D (fun q : Nat => s.heap.size ≤ q) (w2 ++ w1)) (hS : va_S (fun q : Nat => s.heap.size ≤ q) s.heap H locs) {ls : Array Slot} (hl : lv_has ls 4 [(3, .int (nI k)), (2, .ref m0), (1, .ref h0), (0, .ref b)]) :
    W p l e room_1 s m #[Value.ref b] below meth c H locs 56 799 (lw_Z below #[Value.ref b] s) (F0 m 201 ls []) := by
  obtain ⟨hx, hb, hr, hml, hown, hts, hX, hbl, hlocks, hgv⟩ := id C0
  have hts : ∀ w ∈ wsL_law, w.before #[Value.ref b] s = true := fun w h => hts w (wsL_law_in w h)
  have hown : s.vm.findClass RL = some m.cls := hown
  have hA : ∀ q : Nat, s.heap.size ≤ q → (fun q : Nat => s.heap.size ≤ q) q := fun _ h => h
  have hbA : ¬ (fun q : Nat => s.heap.size ≤ q) b := Nat.not_le.mpr hbl
  refine lv_aload_n hx hb dL_law_201 rfl (lv_at hl 2 rfl) ?_
  refine lv_aload_n hx hb dL_law_202 rfl (lv_at hl 3 rfl) ?_
  refine lv_iload_n hx hb dL_law_203 rfl (lv_at hl 0 rfl) ?_
  refine lv_iconst (v := 1) hx hb dL_law_204 (by decide) ?_
  refine lv_iadd hx hb dL_law_205 ?_
  refine va_sld hx hb hX hbl hbA hS (in_L1 hk (by omega)) dL_law_206 ?_
  have hYY := g_part (X := w2) (Y := w1) hP hD
  refine g_calliF (X := w2) (Y := w1) (va_runV (As := [.int _]) (rest := []) ⟨hx, hb, hml, hown, hts⟩ (H_list l D K _ _ hI hC) (cwV 1 hts gL_law_X2_list rfl rfl rfl (by decide +kernel) ⟨(Nat.le_of_ble_eq_true rfl), (Nat.le_of_ble_eq_true rfl)⟩) (C_pre hK hYY.1 hYY.2 hC) rfl rfl hl.1 rfl (lv_room (Nat.le_of_ble_eq_true rfl)) dL_law_207 ⟨(Nat.le_of_ble_eq_true rfl), (Nat.le_of_ble_eq_true rfl)⟩) hP hD hS hA (fun r1 w3 H locs h1 hP hD hS => ?_)
  obtain ⟨hP, hD⟩ := g_swap hP hD
  refine lv_pop hx hb dL_law_210 rfl ?_
  refine lv_aload_n hx hb dL_law_211 rfl (lv_at hl 1 rfl) ?_
  refine lv_aload_n hx hb dL_law_212 rfl (lv_at hl 3 rfl) ?_
  refine lv_iload_n hx hb dL_law_213 rfl (lv_at hl 0 rfl) ?_
  refine lv_iconst (v := 1) hx hb dL_law_214 (by decide) ?_
  refine lv_iadd hx hb dL_law_215 ?_
  refine va_sld hx hb hX hbl hbA hS (in_L1 hk (by omega)) dL_law_216 ?_
  have hYY := g_part (X := w3) (Y := w2) hP hD
  refine g_calliF (X := w3) (Y := w2) (va_runV (As := [.int _]) (rest := []) ⟨hx, hb, hml, hown, hts⟩ (M_list l D K _ _ hI hW) (cwV 1 hts gL_law_X3_list rfl rfl rfl (by decide +kernel) ⟨(Nat.le_of_ble_eq_true rfl), (Nat.le_of_ble_eq_true rfl)⟩) (M_pre hK hYY.1 hYY.2 hW) rfl rfl hl.1 rfl (lv_room (Nat.le_of_ble_eq_true rfl)) dL_law_217 ⟨(Nat.le_of_ble_eq_true rfl), (Nat.le_of_ble_eq_true rfl)⟩) hP hD hS hA (fun r2 w4 H locs h2 hP hD hS => ?_)
  refine lv_pop hx hb dL_law_220 rfl ?_
  refine lv_goto (tgt := 448) hx hb dL_law_221 (by decide) ?_
  obtain ⟨hP, hD⟩ := g_swap hP hD
  exact hE _ w3 w4 H locs (opList_IV hI _) h1.2 h2.2 hP hD hS ls (lv_sub hl [0, 1, 2, 3] rfl)
set_option maxHeartbeats 4000000 in
set_option maxRecDepth 100000 in
theorem law_book {p : Program} {l : Launch} {e : Env} {s : State} {m : MethodId} {below : List Frame} {meth : Method} {c : Code} {b L : Nat} {xs : Nat → Int32} (hL : L ≤ 1536) (C0 : lw_At p s m meth c b L xs) {D : va_G} {K : gCl} (hK : va_K D vwCl (gT K) s) {h0 m0 : Nat} {k : Nat} (hk : k + 3 ≤ L) (hE : ∀ (S : HS) (w1 w2 : va_W) (H : Heap) (locs : List Loc), IVS S → CW K h0 S w1 → MW K m0 S w2 → va_P D vwCl (w2 ++ w1) H → va_D (fun q : Nat => s.heap.size ≤ q) (w2 ++ w1) → va_S (fun q : Nat => s.heap.size ≤ q) s.heap H locs → ∀ (ls : Array Slot), lv_has ls 4 [(3, .int (nI k)), (2, .ref m0), (1, .ref h0), (0, .ref b)] → W p l e room_1 s m #[Value.ref b] below meth c H locs 56 799 (lw_Z below #[Value.ref b] s) (F0 m 448 ls [])) {z : Nat → Nat} {sd : Nat → Int32} {ow : Nat → Nat → Int32} {cn : Nat → Int32} {B : Nat} {q : List Pty} {li : List Nat} {mh : Nat} {fl : Int32} {w1 w2 : va_W} (hI : IV z ow B q li mh) (hC : CW K h0 (z, sd, ow, cn, B, q, li, mh, fl) w1) (hW : MW K m0 (z, sd, ow, cn, B, q, li, mh, fl) w2) {H : Heap} {locs : List Loc} (hP : va_P D vwCl (w2 ++ w1) H) (hD : va_D (fun q : Nat => s.heap.size ≤ q) (w2 ++ w1)) (hS : va_S (fun q : Nat => s.heap.size ≤ q) s.heap H locs) {ls : Array Slot} (hl : lv_has ls 4 [(3, .int (nI k)), (2, .ref m0), (1, .ref h0), (0, .ref b)]) :
    W p l e room_1 s m #[Value.ref b] below meth c H locs 56 799 (lw_Z below #[Value.ref b] s) (F0 m 224 ls []) := by
  obtain ⟨hx, hb, hr, hml, hown, hts, hX, hbl, hlocks, hgv⟩ := id C0
  have hts : ∀ w ∈ wsL_law, w.before #[Value.ref b] s = true := fun w h => hts w (wsL_law_in w h)
  have hown : s.vm.findClass RL = some m.cls := hown
  have hA : ∀ q : Nat, s.heap.size ≤ q → (fun q : Nat => s.heap.size ≤ q) q := fun _ h => h
  have hbA : ¬ (fun q : Nat => s.heap.size ≤ q) b := Nat.not_le.mpr hbl
  refine lv_aload_n hx hb dL_law_224 rfl (lv_at hl 2 rfl) ?_
  refine lv_aload_n hx hb dL_law_225 rfl (lv_at hl 3 rfl) ?_
  refine lv_iload_n hx hb dL_law_226 rfl (lv_at hl 0 rfl) ?_
  refine lv_iconst (v := 1) hx hb dL_law_227 (by decide) ?_
  refine lv_iadd hx hb dL_law_228 ?_
  refine va_sld hx hb hX hbl hbA hS (in_L1 hk (by omega)) dL_law_229 ?_
  refine lv_aload_n hx hb dL_law_230 rfl (lv_at hl 3 rfl) ?_
  refine lv_iload_n hx hb dL_law_231 rfl (lv_at hl 0 rfl) ?_
  refine lv_iconst (v := 2) hx hb dL_law_232 (by decide) ?_
  refine lv_iadd hx hb dL_law_233 ?_
  refine va_sld hx hb hX hbl hbA hS (in_L2 hk (by omega)) dL_law_234 ?_
  have hYY := g_part (X := w2) (Y := w1) hP hD
  refine g_calliF (X := w2) (Y := w1) (va_runV (As := [.int _, .int _]) (rest := []) ⟨hx, hb, hml, hown, hts⟩ (H_book l D K _ _ _ hI hC) (cwV 2 hts gL_law_X2_book rfl rfl rfl (by decide +kernel) ⟨(Nat.le_of_ble_eq_true rfl), (Nat.le_of_ble_eq_true rfl)⟩) (C_pre hK hYY.1 hYY.2 hC) rfl rfl hl.1 rfl (lv_room (Nat.le_of_ble_eq_true rfl)) dL_law_235 ⟨(Nat.le_of_ble_eq_true rfl), (Nat.le_of_ble_eq_true rfl)⟩) hP hD hS hA (fun r1 w3 H locs h1 hP hD hS => ?_)
  obtain ⟨hP, hD⟩ := g_swap hP hD
  refine lv_pop hx hb dL_law_238 rfl ?_
  refine lv_aload_n hx hb dL_law_239 rfl (lv_at hl 1 rfl) ?_
  refine lv_aload_n hx hb dL_law_240 rfl (lv_at hl 3 rfl) ?_
  refine lv_iload_n hx hb dL_law_241 rfl (lv_at hl 0 rfl) ?_
  refine lv_iconst (v := 1) hx hb dL_law_242 (by decide) ?_
  refine lv_iadd hx hb dL_law_243 ?_
  refine va_sld hx hb hX hbl hbA hS (in_L1 hk (by omega)) dL_law_244 ?_
  refine lv_aload_n hx hb dL_law_245 rfl (lv_at hl 3 rfl) ?_
  refine lv_iload_n hx hb dL_law_246 rfl (lv_at hl 0 rfl) ?_
  refine lv_iconst (v := 2) hx hb dL_law_247 (by decide) ?_
  refine lv_iadd hx hb dL_law_248 ?_
  refine va_sld hx hb hX hbl hbA hS (in_L2 hk (by omega)) dL_law_249 ?_
  have hYY := g_part (X := w3) (Y := w2) hP hD
  refine g_calliF (X := w3) (Y := w2) (va_runV (As := [.int _, .int _]) (rest := []) ⟨hx, hb, hml, hown, hts⟩ (M_book l D K _ _ _ hI hW) (cwV 2 hts gL_law_X3_book rfl rfl rfl (by decide +kernel) ⟨(Nat.le_of_ble_eq_true rfl), (Nat.le_of_ble_eq_true rfl)⟩) (M_pre hK hYY.1 hYY.2 hW) rfl rfl hl.1 rfl (lv_room (Nat.le_of_ble_eq_true rfl)) dL_law_250 ⟨(Nat.le_of_ble_eq_true rfl), (Nat.le_of_ble_eq_true rfl)⟩) hP hD hS hA (fun r2 w4 H locs h2 hP hD hS => ?_)
  refine lv_pop hx hb dL_law_253 rfl ?_
  refine lv_goto (tgt := 448) hx hb dL_law_254 (by decide) ?_
  obtain ⟨hP, hD⟩ := g_swap hP hD
  exact hE _ w3 w4 H locs (opBook_IV hI _ _) h1.2 h2.2 hP hD hS ls (lv_sub hl [0, 1, 2, 3] rfl)
set_option maxHeartbeats 4000000 in
set_option maxRecDepth 100000 in
theorem law_cancel {p : Program} {l : Launch} {e : Env} {s : State} {m : MethodId} {below : List Frame} {meth : Method} {c : Code} {b L : Nat} {xs : Nat → Int32} (hL : L ≤ 1536) (C0 : lw_At p s m meth c b L xs) {D : va_G} {K : gCl} (hK : va_K D vwCl (gT K) s) {h0 m0 : Nat} {k : Nat} (hk : k + 3 ≤ L) (hE : ∀ (S : HS) (w1 w2 : va_W) (H : Heap) (locs : List Loc), IVS S → CW K h0 S w1 → MW K m0 S w2 → va_P D vwCl (w2 ++ w1) H → va_D (fun q : Nat => s.heap.size ≤ q) (w2 ++ w1) → va_S (fun q : Nat => s.heap.size ≤ q) s.heap H locs → ∀ (ls : Array Slot), lv_has ls 4 [(3, .int (nI k)), (2, .ref m0), (1, .ref h0), (0, .ref b)] → W p l e room_1 s m #[Value.ref b] below meth c H locs 56 799 (lw_Z below #[Value.ref b] s) (F0 m 448 ls [])) {z : Nat → Nat} {sd : Nat → Int32} {ow : Nat → Nat → Int32} {cn : Nat → Int32} {B : Nat} {q : List Pty} {li : List Nat} {mh : Nat} {fl : Int32} {w1 w2 : va_W} (hI : IV z ow B q li mh) (hC : CW K h0 (z, sd, ow, cn, B, q, li, mh, fl) w1) (hW : MW K m0 (z, sd, ow, cn, B, q, li, mh, fl) w2) {H : Heap} {locs : List Loc} (hP : va_P D vwCl (w2 ++ w1) H) (hD : va_D (fun q : Nat => s.heap.size ≤ q) (w2 ++ w1)) (hS : va_S (fun q : Nat => s.heap.size ≤ q) s.heap H locs) {ls : Array Slot} (hl : lv_has ls 4 [(3, .int (nI k)), (2, .ref m0), (1, .ref h0), (0, .ref b)]) :
    W p l e room_1 s m #[Value.ref b] below meth c H locs 56 799 (lw_Z below #[Value.ref b] s) (F0 m 257 ls []) := by
  obtain ⟨hx, hb, hr, hml, hown, hts, hX, hbl, hlocks, hgv⟩ := id C0
  have hts : ∀ w ∈ wsL_law, w.before #[Value.ref b] s = true := fun w h => hts w (wsL_law_in w h)
  have hown : s.vm.findClass RL = some m.cls := hown
  have hA : ∀ q : Nat, s.heap.size ≤ q → (fun q : Nat => s.heap.size ≤ q) q := fun _ h => h
  have hbA : ¬ (fun q : Nat => s.heap.size ≤ q) b := Nat.not_le.mpr hbl
  refine lv_aload_n hx hb dL_law_257 rfl (lv_at hl 2 rfl) ?_
  refine lv_aload_n hx hb dL_law_258 rfl (lv_at hl 3 rfl) ?_
  refine lv_iload_n hx hb dL_law_259 rfl (lv_at hl 0 rfl) ?_
  refine lv_iconst (v := 1) hx hb dL_law_260 (by decide) ?_
  refine lv_iadd hx hb dL_law_261 ?_
  refine va_sld hx hb hX hbl hbA hS (in_L1 hk (by omega)) dL_law_262 ?_
  have hYY := g_part (X := w2) (Y := w1) hP hD
  refine g_calliF (X := w2) (Y := w1) (va_runV (As := [.int _]) (rest := []) ⟨hx, hb, hml, hown, hts⟩ (H_cancel l D K _ _ hI hC) (cwV 1 hts gL_law_X2_cancel rfl rfl rfl (by decide +kernel) ⟨(Nat.le_of_ble_eq_true rfl), (Nat.le_of_ble_eq_true rfl)⟩) (C_pre hK hYY.1 hYY.2 hC) rfl rfl hl.1 rfl (lv_room (Nat.le_of_ble_eq_true rfl)) dL_law_263 ⟨(Nat.le_of_ble_eq_true rfl), (Nat.le_of_ble_eq_true rfl)⟩) hP hD hS hA (fun r1 w3 H locs h1 hP hD hS => ?_)
  obtain ⟨hP, hD⟩ := g_swap hP hD
  refine lv_pop hx hb dL_law_266 rfl ?_
  refine lv_aload_n hx hb dL_law_267 rfl (lv_at hl 1 rfl) ?_
  refine lv_aload_n hx hb dL_law_268 rfl (lv_at hl 3 rfl) ?_
  refine lv_iload_n hx hb dL_law_269 rfl (lv_at hl 0 rfl) ?_
  refine lv_iconst (v := 1) hx hb dL_law_270 (by decide) ?_
  refine lv_iadd hx hb dL_law_271 ?_
  refine va_sld hx hb hX hbl hbA hS (in_L1 hk (by omega)) dL_law_272 ?_
  have hYY := g_part (X := w3) (Y := w2) hP hD
  refine g_calliF (X := w3) (Y := w2) (va_runV (As := [.int _]) (rest := []) ⟨hx, hb, hml, hown, hts⟩ (M_cancel l D K _ _ hI hW) (cwV 1 hts gL_law_X3_cancel rfl rfl rfl (by decide +kernel) ⟨(Nat.le_of_ble_eq_true rfl), (Nat.le_of_ble_eq_true rfl)⟩) (M_pre hK hYY.1 hYY.2 hW) rfl rfl hl.1 rfl (lv_room (Nat.le_of_ble_eq_true rfl)) dL_law_273 ⟨(Nat.le_of_ble_eq_true rfl), (Nat.le_of_ble_eq_true rfl)⟩) hP hD hS hA (fun r2 w4 H locs h2 hP hD hS => ?_)
  refine lv_pop hx hb dL_law_276 rfl ?_
  refine lv_goto (tgt := 448) hx hb dL_law_277 (by decide) ?_
  obtain ⟨hP, hD⟩ := g_swap hP hD
  exact hE _ w3 w4 H locs (opCancel_IV hI _) h1.2 h2.2 hP hD hS ls (lv_sub hl [0, 1, 2, 3] rfl)
set_option maxHeartbeats 4000000 in
set_option maxRecDepth 100000 in
theorem law_leave {p : Program} {l : Launch} {e : Env} {s : State} {m : MethodId} {below : List Frame} {meth : Method} {c : Code} {b L : Nat} {xs : Nat → Int32} (hL : L ≤ 1536) (C0 : lw_At p s m meth c b L xs) {D : va_G} {K : gCl} (hK : va_K D vwCl (gT K) s) {h0 m0 : Nat} {k : Nat} (hk : k + 3 ≤ L) (hE : ∀ (S : HS) (w1 w2 : va_W) (H : Heap) (locs : List Loc), IVS S → CW K h0 S w1 → MW K m0 S w2 → va_P D vwCl (w2 ++ w1) H → va_D (fun q : Nat => s.heap.size ≤ q) (w2 ++ w1) → va_S (fun q : Nat => s.heap.size ≤ q) s.heap H locs → ∀ (ls : Array Slot), lv_has ls 4 [(3, .int (nI k)), (2, .ref m0), (1, .ref h0), (0, .ref b)] → W p l e room_1 s m #[Value.ref b] below meth c H locs 56 799 (lw_Z below #[Value.ref b] s) (F0 m 448 ls [])) {z : Nat → Nat} {sd : Nat → Int32} {ow : Nat → Nat → Int32} {cn : Nat → Int32} {B : Nat} {q : List Pty} {li : List Nat} {mh : Nat} {fl : Int32} {w1 w2 : va_W} (hI : IV z ow B q li mh) (hC : CW K h0 (z, sd, ow, cn, B, q, li, mh, fl) w1) (hW : MW K m0 (z, sd, ow, cn, B, q, li, mh, fl) w2) {H : Heap} {locs : List Loc} (hP : va_P D vwCl (w2 ++ w1) H) (hD : va_D (fun q : Nat => s.heap.size ≤ q) (w2 ++ w1)) (hS : va_S (fun q : Nat => s.heap.size ≤ q) s.heap H locs) {ls : Array Slot} (hl : lv_has ls 4 [(3, .int (nI k)), (2, .ref m0), (1, .ref h0), (0, .ref b)]) :
    W p l e room_1 s m #[Value.ref b] below meth c H locs 56 799 (lw_Z below #[Value.ref b] s) (F0 m 280 ls []) := by
  obtain ⟨hx, hb, hr, hml, hown, hts, hX, hbl, hlocks, hgv⟩ := id C0
  have hts : ∀ w ∈ wsL_law, w.before #[Value.ref b] s = true := fun w h => hts w (wsL_law_in w h)
  have hown : s.vm.findClass RL = some m.cls := hown
  have hA : ∀ q : Nat, s.heap.size ≤ q → (fun q : Nat => s.heap.size ≤ q) q := fun _ h => h
  have hbA : ¬ (fun q : Nat => s.heap.size ≤ q) b := Nat.not_le.mpr hbl
  refine lv_aload_n hx hb dL_law_280 rfl (lv_at hl 2 rfl) ?_
  refine lv_aload_n hx hb dL_law_281 rfl (lv_at hl 3 rfl) ?_
  refine lv_iload_n hx hb dL_law_282 rfl (lv_at hl 0 rfl) ?_
  refine lv_iconst (v := 1) hx hb dL_law_283 (by decide) ?_
  refine lv_iadd hx hb dL_law_284 ?_
  refine va_sld hx hb hX hbl hbA hS (in_L1 hk (by omega)) dL_law_285 ?_
  have hYY := g_part (X := w2) (Y := w1) hP hD
  refine g_calliF (X := w2) (Y := w1) (va_runV (As := [.int _]) (rest := []) ⟨hx, hb, hml, hown, hts⟩ (H_leave l D K _ _ hI hC) (cwV 1 hts gL_law_X2_leave rfl rfl rfl (by decide +kernel) ⟨(Nat.le_of_ble_eq_true rfl), (Nat.le_of_ble_eq_true rfl)⟩) (C_pre hK hYY.1 hYY.2 hC) rfl rfl hl.1 rfl (lv_room (Nat.le_of_ble_eq_true rfl)) dL_law_286 ⟨(Nat.le_of_ble_eq_true rfl), (Nat.le_of_ble_eq_true rfl)⟩) hP hD hS hA (fun r1 w3 H locs h1 hP hD hS => ?_)
  obtain ⟨hP, hD⟩ := g_swap hP hD
  refine lv_pop hx hb dL_law_289 rfl ?_
  refine lv_aload_n hx hb dL_law_290 rfl (lv_at hl 1 rfl) ?_
  refine lv_aload_n hx hb dL_law_291 rfl (lv_at hl 3 rfl) ?_
  refine lv_iload_n hx hb dL_law_292 rfl (lv_at hl 0 rfl) ?_
  refine lv_iconst (v := 1) hx hb dL_law_293 (by decide) ?_
  refine lv_iadd hx hb dL_law_294 ?_
  refine va_sld hx hb hX hbl hbA hS (in_L1 hk (by omega)) dL_law_295 ?_
  have hYY := g_part (X := w3) (Y := w2) hP hD
  refine g_calliF (X := w3) (Y := w2) (va_runV (As := [.int _]) (rest := []) ⟨hx, hb, hml, hown, hts⟩ (M_leave l D K _ _ hI hW) (cwV 1 hts gL_law_X3_leave rfl rfl rfl (by decide +kernel) ⟨(Nat.le_of_ble_eq_true rfl), (Nat.le_of_ble_eq_true rfl)⟩) (M_pre hK hYY.1 hYY.2 hW) rfl rfl hl.1 rfl (lv_room (Nat.le_of_ble_eq_true rfl)) dL_law_296 ⟨(Nat.le_of_ble_eq_true rfl), (Nat.le_of_ble_eq_true rfl)⟩) hP hD hS hA (fun r2 w4 H locs h2 hP hD hS => ?_)
  refine lv_pop hx hb dL_law_299 rfl ?_
  refine lv_goto (tgt := 448) hx hb dL_law_300 (by decide) ?_
  obtain ⟨hP, hD⟩ := g_swap hP hD
  exact hE _ w3 w4 H locs (opLeave_IV hI _) h1.2 h2.2 hP hD hS ls (lv_sub hl [0, 1, 2, 3] rfl)
set_option maxHeartbeats 4000000 in
set_option maxRecDepth 100000 in
theorem law_seat {p : Program} {l : Launch} {e : Env} {s : State} {m : MethodId} {below : List Frame} {meth : Method} {c : Code} {b L : Nat} {xs : Nat → Int32} (hL : L ≤ 1536) (C0 : lw_At p s m meth c b L xs) {D : va_G} {K : gCl} (hK : va_K D vwCl (gT K) s) {h0 m0 : Nat} {k : Nat} (hk : k + 3 ≤ L) (hE : ∀ (S : HS) (w1 w2 : va_W) (H : Heap) (locs : List Loc), IVS S → CW K h0 S w1 → MW K m0 S w2 → va_P D vwCl (w2 ++ w1) H → va_D (fun q : Nat => s.heap.size ≤ q) (w2 ++ w1) → va_S (fun q : Nat => s.heap.size ≤ q) s.heap H locs → ∀ (ls : Array Slot), lv_has ls 4 [(3, .int (nI k)), (2, .ref m0), (1, .ref h0), (0, .ref b)] → W p l e room_1 s m #[Value.ref b] below meth c H locs 56 799 (lw_Z below #[Value.ref b] s) (F0 m 448 ls [])) {z : Nat → Nat} {sd : Nat → Int32} {ow : Nat → Nat → Int32} {cn : Nat → Int32} {B : Nat} {q : List Pty} {li : List Nat} {mh : Nat} {fl : Int32} {w1 w2 : va_W} (hI : IV z ow B q li mh) (hC : CW K h0 (z, sd, ow, cn, B, q, li, mh, fl) w1) (hW : MW K m0 (z, sd, ow, cn, B, q, li, mh, fl) w2) {H : Heap} {locs : List Loc} (hP : va_P D vwCl (w2 ++ w1) H) (hD : va_D (fun q : Nat => s.heap.size ≤ q) (w2 ++ w1)) (hS : va_S (fun q : Nat => s.heap.size ≤ q) s.heap H locs) {ls : Array Slot} (hl : lv_has ls 4 [(3, .int (nI k)), (2, .ref m0), (1, .ref h0), (0, .ref b)]) :
    W p l e room_1 s m #[Value.ref b] below meth c H locs 56 799 (lw_Z below #[Value.ref b] s) (F0 m 303 ls []) := by
  obtain ⟨hx, hb, hr, hml, hown, hts, hX, hbl, hlocks, hgv⟩ := id C0
  have hts : ∀ w ∈ wsL_law, w.before #[Value.ref b] s = true := fun w h => hts w (wsL_law_in w h)
  have hown : s.vm.findClass RL = some m.cls := hown
  have hA : ∀ q : Nat, s.heap.size ≤ q → (fun q : Nat => s.heap.size ≤ q) q := fun _ h => h
  have hbA : ¬ (fun q : Nat => s.heap.size ≤ q) b := Nat.not_le.mpr hbl
  refine lv_aload_n hx hb dL_law_303 rfl (lv_at hl 2 rfl) ?_
  refine lv_aload_n hx hb dL_law_304 rfl (lv_at hl 3 rfl) ?_
  refine lv_iload_n hx hb dL_law_305 rfl (lv_at hl 0 rfl) ?_
  refine lv_iconst (v := 1) hx hb dL_law_306 (by decide) ?_
  refine lv_iadd hx hb dL_law_307 ?_
  refine va_sld hx hb hX hbl hbA hS (in_L1 hk (by omega)) dL_law_308 ?_
  refine lv_aload_n hx hb dL_law_309 rfl (lv_at hl 3 rfl) ?_
  refine lv_iload_n hx hb dL_law_310 rfl (lv_at hl 0 rfl) ?_
  refine lv_iconst (v := 2) hx hb dL_law_311 (by decide) ?_
  refine lv_iadd hx hb dL_law_312 ?_
  refine va_sld hx hb hX hbl hbA hS (in_L2 hk (by omega)) dL_law_313 ?_
  have hYY := g_part (X := w2) (Y := w1) hP hD
  refine g_calliF (X := w2) (Y := w1) (va_runV (As := [.int _, .int _]) (rest := []) ⟨hx, hb, hml, hown, hts⟩ (H_seat l D K _ _ _ hI hC) (cwV 2 hts gL_law_X2_seat rfl rfl rfl (by decide +kernel) ⟨(Nat.le_of_ble_eq_true rfl), (Nat.le_of_ble_eq_true rfl)⟩) (C_pre hK hYY.1 hYY.2 hC) rfl rfl hl.1 rfl (lv_room (Nat.le_of_ble_eq_true rfl)) dL_law_314 ⟨(Nat.le_of_ble_eq_true rfl), (Nat.le_of_ble_eq_true rfl)⟩) hP hD hS hA (fun r1 w3 H locs h1 hP hD hS => ?_)
  obtain ⟨hP, hD⟩ := g_swap hP hD
  refine lv_pop hx hb dL_law_317 rfl ?_
  refine lv_aload_n hx hb dL_law_318 rfl (lv_at hl 1 rfl) ?_
  refine lv_aload_n hx hb dL_law_319 rfl (lv_at hl 3 rfl) ?_
  refine lv_iload_n hx hb dL_law_320 rfl (lv_at hl 0 rfl) ?_
  refine lv_iconst (v := 1) hx hb dL_law_321 (by decide) ?_
  refine lv_iadd hx hb dL_law_322 ?_
  refine va_sld hx hb hX hbl hbA hS (in_L1 hk (by omega)) dL_law_323 ?_
  refine lv_aload_n hx hb dL_law_324 rfl (lv_at hl 3 rfl) ?_
  refine lv_iload_n hx hb dL_law_325 rfl (lv_at hl 0 rfl) ?_
  refine lv_iconst (v := 2) hx hb dL_law_326 (by decide) ?_
  refine lv_iadd hx hb dL_law_327 ?_
  refine va_sld hx hb hX hbl hbA hS (in_L2 hk (by omega)) dL_law_328 ?_
  have hYY := g_part (X := w3) (Y := w2) hP hD
  refine g_calliF (X := w3) (Y := w2) (va_runV (As := [.int _, .int _]) (rest := []) ⟨hx, hb, hml, hown, hts⟩ (M_seat l D K _ _ _ hI hW) (cwV 2 hts gL_law_X3_seat rfl rfl rfl (by decide +kernel) ⟨(Nat.le_of_ble_eq_true rfl), (Nat.le_of_ble_eq_true rfl)⟩) (M_pre hK hYY.1 hYY.2 hW) rfl rfl hl.1 rfl (lv_room (Nat.le_of_ble_eq_true rfl)) dL_law_329 ⟨(Nat.le_of_ble_eq_true rfl), (Nat.le_of_ble_eq_true rfl)⟩) hP hD hS hA (fun r2 w4 H locs h2 hP hD hS => ?_)
  refine lv_pop hx hb dL_law_332 rfl ?_
  refine lv_goto (tgt := 448) hx hb dL_law_333 (by decide) ?_
  obtain ⟨hP, hD⟩ := g_swap hP hD
  exact hE (z, sd, ow, cn, B, q, li, mh, fl) w3 w4 H locs hI h1.2 h2.2 hP hD hS ls (lv_sub hl [0, 1, 2, 3] rfl)
set_option maxHeartbeats 4000000 in
set_option maxRecDepth 100000 in
theorem law_has {p : Program} {l : Launch} {e : Env} {s : State} {m : MethodId} {below : List Frame} {meth : Method} {c : Code} {b L : Nat} {xs : Nat → Int32} (hL : L ≤ 1536) (C0 : lw_At p s m meth c b L xs) {D : va_G} {K : gCl} (hK : va_K D vwCl (gT K) s) {h0 m0 : Nat} {k : Nat} (hk : k + 3 ≤ L) (hE : ∀ (S : HS) (w1 w2 : va_W) (H : Heap) (locs : List Loc), IVS S → CW K h0 S w1 → MW K m0 S w2 → va_P D vwCl (w2 ++ w1) H → va_D (fun q : Nat => s.heap.size ≤ q) (w2 ++ w1) → va_S (fun q : Nat => s.heap.size ≤ q) s.heap H locs → ∀ (ls : Array Slot), lv_has ls 4 [(3, .int (nI k)), (2, .ref m0), (1, .ref h0), (0, .ref b)] → W p l e room_1 s m #[Value.ref b] below meth c H locs 56 799 (lw_Z below #[Value.ref b] s) (F0 m 448 ls [])) {z : Nat → Nat} {sd : Nat → Int32} {ow : Nat → Nat → Int32} {cn : Nat → Int32} {B : Nat} {q : List Pty} {li : List Nat} {mh : Nat} {fl : Int32} {w1 w2 : va_W} (hI : IV z ow B q li mh) (hC : CW K h0 (z, sd, ow, cn, B, q, li, mh, fl) w1) (hW : MW K m0 (z, sd, ow, cn, B, q, li, mh, fl) w2) {H : Heap} {locs : List Loc} (hP : va_P D vwCl (w2 ++ w1) H) (hD : va_D (fun q : Nat => s.heap.size ≤ q) (w2 ++ w1)) (hS : va_S (fun q : Nat => s.heap.size ≤ q) s.heap H locs) {ls : Array Slot} (hl : lv_has ls 4 [(3, .int (nI k)), (2, .ref m0), (1, .ref h0), (0, .ref b)]) :
    W p l e room_1 s m #[Value.ref b] below meth c H locs 56 799 (lw_Z below #[Value.ref b] s) (F0 m 336 ls []) := by
  obtain ⟨hx, hb, hr, hml, hown, hts, hX, hbl, hlocks, hgv⟩ := id C0
  have hts : ∀ w ∈ wsL_law, w.before #[Value.ref b] s = true := fun w h => hts w (wsL_law_in w h)
  have hown : s.vm.findClass RL = some m.cls := hown
  have hA : ∀ q : Nat, s.heap.size ≤ q → (fun q : Nat => s.heap.size ≤ q) q := fun _ h => h
  have hbA : ¬ (fun q : Nat => s.heap.size ≤ q) b := Nat.not_le.mpr hbl
  refine lv_aload_n hx hb dL_law_336 rfl (lv_at hl 2 rfl) ?_
  refine lv_aload_n hx hb dL_law_337 rfl (lv_at hl 3 rfl) ?_
  refine lv_iload_n hx hb dL_law_338 rfl (lv_at hl 0 rfl) ?_
  refine lv_iconst (v := 1) hx hb dL_law_339 (by decide) ?_
  refine lv_iadd hx hb dL_law_340 ?_
  refine va_sld hx hb hX hbl hbA hS (in_L1 hk (by omega)) dL_law_341 ?_
  refine lv_aload_n hx hb dL_law_342 rfl (lv_at hl 3 rfl) ?_
  refine lv_iload_n hx hb dL_law_343 rfl (lv_at hl 0 rfl) ?_
  refine lv_iconst (v := 2) hx hb dL_law_344 (by decide) ?_
  refine lv_iadd hx hb dL_law_345 ?_
  refine va_sld hx hb hX hbl hbA hS (in_L2 hk (by omega)) dL_law_346 ?_
  have hYY := g_part (X := w2) (Y := w1) hP hD
  refine g_calliF (X := w2) (Y := w1) (va_runV (As := [.int _, .int _]) (rest := []) ⟨hx, hb, hml, hown, hts⟩ (H_has l D K _ _ _ hI hC) (cwV 2 hts gL_law_X2_has rfl rfl rfl (by decide +kernel) ⟨(Nat.le_of_ble_eq_true rfl), (Nat.le_of_ble_eq_true rfl)⟩) (C_pre hK hYY.1 hYY.2 hC) rfl rfl hl.1 rfl (lv_room (Nat.le_of_ble_eq_true rfl)) dL_law_347 ⟨(Nat.le_of_ble_eq_true rfl), (Nat.le_of_ble_eq_true rfl)⟩) hP hD hS hA (fun r1 w3 H locs h1 hP hD hS => ?_)
  obtain ⟨hP, hD⟩ := g_swap hP hD
  refine lv_pop hx hb dL_law_350 rfl ?_
  refine lv_aload_n hx hb dL_law_351 rfl (lv_at hl 1 rfl) ?_
  refine lv_aload_n hx hb dL_law_352 rfl (lv_at hl 3 rfl) ?_
  refine lv_iload_n hx hb dL_law_353 rfl (lv_at hl 0 rfl) ?_
  refine lv_iconst (v := 1) hx hb dL_law_354 (by decide) ?_
  refine lv_iadd hx hb dL_law_355 ?_
  refine va_sld hx hb hX hbl hbA hS (in_L1 hk (by omega)) dL_law_356 ?_
  refine lv_aload_n hx hb dL_law_357 rfl (lv_at hl 3 rfl) ?_
  refine lv_iload_n hx hb dL_law_358 rfl (lv_at hl 0 rfl) ?_
  refine lv_iconst (v := 2) hx hb dL_law_359 (by decide) ?_
  refine lv_iadd hx hb dL_law_360 ?_
  refine va_sld hx hb hX hbl hbA hS (in_L2 hk (by omega)) dL_law_361 ?_
  have hYY := g_part (X := w3) (Y := w2) hP hD
  refine g_calliF (X := w3) (Y := w2) (va_runV (As := [.int _, .int _]) (rest := []) ⟨hx, hb, hml, hown, hts⟩ (M_has l D K _ _ _ hI hW) (cwV 2 hts gL_law_X3_has rfl rfl rfl (by decide +kernel) ⟨(Nat.le_of_ble_eq_true rfl), (Nat.le_of_ble_eq_true rfl)⟩) (M_pre hK hYY.1 hYY.2 hW) rfl rfl hl.1 rfl (lv_room (Nat.le_of_ble_eq_true rfl)) dL_law_362 ⟨(Nat.le_of_ble_eq_true rfl), (Nat.le_of_ble_eq_true rfl)⟩) hP hD hS hA (fun r2 w4 H locs h2 hP hD hS => ?_)
  refine lv_pop hx hb dL_law_365 rfl ?_
  refine lv_goto (tgt := 448) hx hb dL_law_366 (by decide) ?_
  obtain ⟨hP, hD⟩ := g_swap hP hD
  exact hE (z, sd, ow, cn, B, q, li, mh, fl) w3 w4 H locs hI h1.2 h2.2 hP hD hS ls (lv_sub hl [0, 1, 2, 3] rfl)
set_option maxHeartbeats 4000000 in
set_option maxRecDepth 100000 in
theorem law_about {p : Program} {l : Launch} {e : Env} {s : State} {m : MethodId} {below : List Frame} {meth : Method} {c : Code} {b L : Nat} {xs : Nat → Int32} (hL : L ≤ 1536) (C0 : lw_At p s m meth c b L xs) {D : va_G} {K : gCl} (hK : va_K D vwCl (gT K) s) {h0 m0 : Nat} {k : Nat} (hk : k + 3 ≤ L) (hE : ∀ (S : HS) (w1 w2 : va_W) (H : Heap) (locs : List Loc), IVS S → CW K h0 S w1 → MW K m0 S w2 → va_P D vwCl (w2 ++ w1) H → va_D (fun q : Nat => s.heap.size ≤ q) (w2 ++ w1) → va_S (fun q : Nat => s.heap.size ≤ q) s.heap H locs → ∀ (ls : Array Slot), lv_has ls 4 [(3, .int (nI k)), (2, .ref m0), (1, .ref h0), (0, .ref b)] → W p l e room_1 s m #[Value.ref b] below meth c H locs 56 799 (lw_Z below #[Value.ref b] s) (F0 m 448 ls [])) {z : Nat → Nat} {sd : Nat → Int32} {ow : Nat → Nat → Int32} {cn : Nat → Int32} {B : Nat} {q : List Pty} {li : List Nat} {mh : Nat} {fl : Int32} {w1 w2 : va_W} (hI : IV z ow B q li mh) (hC : CW K h0 (z, sd, ow, cn, B, q, li, mh, fl) w1) (hW : MW K m0 (z, sd, ow, cn, B, q, li, mh, fl) w2) {H : Heap} {locs : List Loc} (hP : va_P D vwCl (w2 ++ w1) H) (hD : va_D (fun q : Nat => s.heap.size ≤ q) (w2 ++ w1)) (hS : va_S (fun q : Nat => s.heap.size ≤ q) s.heap H locs) {ls : Array Slot} (hl : lv_has ls 4 [(3, .int (nI k)), (2, .ref m0), (1, .ref h0), (0, .ref b)]) :
    W p l e room_1 s m #[Value.ref b] below meth c H locs 56 799 (lw_Z below #[Value.ref b] s) (F0 m 369 ls []) := by
  obtain ⟨hx, hb, hr, hml, hown, hts, hX, hbl, hlocks, hgv⟩ := id C0
  have hts : ∀ w ∈ wsL_law, w.before #[Value.ref b] s = true := fun w h => hts w (wsL_law_in w h)
  have hown : s.vm.findClass RL = some m.cls := hown
  have hA : ∀ q : Nat, s.heap.size ≤ q → (fun q : Nat => s.heap.size ≤ q) q := fun _ h => h
  have hbA : ¬ (fun q : Nat => s.heap.size ≤ q) b := Nat.not_le.mpr hbl
  refine lv_aload_n hx hb dL_law_369 rfl (lv_at hl 2 rfl) ?_
  refine lv_aload_n hx hb dL_law_370 rfl (lv_at hl 3 rfl) ?_
  refine lv_iload_n hx hb dL_law_371 rfl (lv_at hl 0 rfl) ?_
  refine lv_iconst (v := 1) hx hb dL_law_372 (by decide) ?_
  refine lv_iadd hx hb dL_law_373 ?_
  refine va_sld hx hb hX hbl hbA hS (in_L1 hk (by omega)) dL_law_374 ?_
  refine lv_aload_n hx hb dL_law_375 rfl (lv_at hl 3 rfl) ?_
  refine lv_iload_n hx hb dL_law_376 rfl (lv_at hl 0 rfl) ?_
  refine lv_iconst (v := 2) hx hb dL_law_377 (by decide) ?_
  refine lv_iadd hx hb dL_law_378 ?_
  refine va_sld hx hb hX hbl hbA hS (in_L2 hk (by omega)) dL_law_379 ?_
  have hYY := g_part (X := w2) (Y := w1) hP hD
  refine g_calliF (X := w2) (Y := w1) (va_runV (As := [.int _, .int _]) (rest := []) ⟨hx, hb, hml, hown, hts⟩ (H_about l D K _ _ _ hI hC) (cwV 2 hts gL_law_X2_about rfl rfl rfl (by decide +kernel) ⟨(Nat.le_of_ble_eq_true rfl), (Nat.le_of_ble_eq_true rfl)⟩) (C_pre hK hYY.1 hYY.2 hC) rfl rfl hl.1 rfl (lv_room (Nat.le_of_ble_eq_true rfl)) dL_law_380 ⟨(Nat.le_of_ble_eq_true rfl), (Nat.le_of_ble_eq_true rfl)⟩) hP hD hS hA (fun r1 w3 H locs h1 hP hD hS => ?_)
  obtain ⟨hP, hD⟩ := g_swap hP hD
  refine lv_pop hx hb dL_law_383 rfl ?_
  refine lv_aload_n hx hb dL_law_384 rfl (lv_at hl 1 rfl) ?_
  refine lv_aload_n hx hb dL_law_385 rfl (lv_at hl 3 rfl) ?_
  refine lv_iload_n hx hb dL_law_386 rfl (lv_at hl 0 rfl) ?_
  refine lv_iconst (v := 1) hx hb dL_law_387 (by decide) ?_
  refine lv_iadd hx hb dL_law_388 ?_
  refine va_sld hx hb hX hbl hbA hS (in_L1 hk (by omega)) dL_law_389 ?_
  refine lv_aload_n hx hb dL_law_390 rfl (lv_at hl 3 rfl) ?_
  refine lv_iload_n hx hb dL_law_391 rfl (lv_at hl 0 rfl) ?_
  refine lv_iconst (v := 2) hx hb dL_law_392 (by decide) ?_
  refine lv_iadd hx hb dL_law_393 ?_
  refine va_sld hx hb hX hbl hbA hS (in_L2 hk (by omega)) dL_law_394 ?_
  have hYY := g_part (X := w3) (Y := w2) hP hD
  refine g_calliF (X := w3) (Y := w2) (va_runV (As := [.int _, .int _]) (rest := []) ⟨hx, hb, hml, hown, hts⟩ (M_about l D K _ _ _ hI hW) (cwV 2 hts gL_law_X3_about rfl rfl rfl (by decide +kernel) ⟨(Nat.le_of_ble_eq_true rfl), (Nat.le_of_ble_eq_true rfl)⟩) (M_pre hK hYY.1 hYY.2 hW) rfl rfl hl.1 rfl (lv_room (Nat.le_of_ble_eq_true rfl)) dL_law_395 ⟨(Nat.le_of_ble_eq_true rfl), (Nat.le_of_ble_eq_true rfl)⟩) hP hD hS hA (fun r2 w4 H locs h2 hP hD hS => ?_)
  refine lv_pop hx hb dL_law_398 rfl ?_
  refine lv_goto (tgt := 448) hx hb dL_law_399 (by decide) ?_
  obtain ⟨hP, hD⟩ := g_swap hP hD
  exact hE (z, sd, ow, cn, B, q, li, mh, fl) w3 w4 H locs hI h1 h2 hP hD hS ls (lv_sub hl [0, 1, 2, 3] rfl)
set_option maxHeartbeats 4000000 in
set_option maxRecDepth 100000 in
theorem law_told {p : Program} {l : Launch} {e : Env} {s : State} {m : MethodId} {below : List Frame} {meth : Method} {c : Code} {b L : Nat} {xs : Nat → Int32} (hL : L ≤ 1536) (C0 : lw_At p s m meth c b L xs) {D : va_G} {K : gCl} (hK : va_K D vwCl (gT K) s) {h0 m0 : Nat} {k : Nat} (hk : k + 3 ≤ L) (hE : ∀ (S : HS) (w1 w2 : va_W) (H : Heap) (locs : List Loc), IVS S → CW K h0 S w1 → MW K m0 S w2 → va_P D vwCl (w2 ++ w1) H → va_D (fun q : Nat => s.heap.size ≤ q) (w2 ++ w1) → va_S (fun q : Nat => s.heap.size ≤ q) s.heap H locs → ∀ (ls : Array Slot), lv_has ls 4 [(3, .int (nI k)), (2, .ref m0), (1, .ref h0), (0, .ref b)] → W p l e room_1 s m #[Value.ref b] below meth c H locs 56 799 (lw_Z below #[Value.ref b] s) (F0 m 448 ls [])) {z : Nat → Nat} {sd : Nat → Int32} {ow : Nat → Nat → Int32} {cn : Nat → Int32} {B : Nat} {q : List Pty} {li : List Nat} {mh : Nat} {fl : Int32} {w1 w2 : va_W} (hI : IV z ow B q li mh) (hC : CW K h0 (z, sd, ow, cn, B, q, li, mh, fl) w1) (hW : MW K m0 (z, sd, ow, cn, B, q, li, mh, fl) w2) {H : Heap} {locs : List Loc} (hP : va_P D vwCl (w2 ++ w1) H) (hD : va_D (fun q : Nat => s.heap.size ≤ q) (w2 ++ w1)) (hS : va_S (fun q : Nat => s.heap.size ≤ q) s.heap H locs) {ls : Array Slot} (hl : lv_has ls 4 [(3, .int (nI k)), (2, .ref m0), (1, .ref h0), (0, .ref b)]) :
    W p l e room_1 s m #[Value.ref b] below meth c H locs 56 799 (lw_Z below #[Value.ref b] s) (F0 m 402 ls []) := by
  obtain ⟨hx, hb, hr, hml, hown, hts, hX, hbl, hlocks, hgv⟩ := id C0
  have hts : ∀ w ∈ wsL_law, w.before #[Value.ref b] s = true := fun w h => hts w (wsL_law_in w h)
  have hown : s.vm.findClass RL = some m.cls := hown
  have hA : ∀ q : Nat, s.heap.size ≤ q → (fun q : Nat => s.heap.size ≤ q) q := fun _ h => h
  have hbA : ¬ (fun q : Nat => s.heap.size ≤ q) b := Nat.not_le.mpr hbl
  refine lv_aload_n hx hb dL_law_402 rfl (lv_at hl 2 rfl) ?_
  refine lv_aload_n hx hb dL_law_403 rfl (lv_at hl 3 rfl) ?_
  refine lv_iload_n hx hb dL_law_404 rfl (lv_at hl 0 rfl) ?_
  refine lv_iconst (v := 1) hx hb dL_law_405 (by decide) ?_
  refine lv_iadd hx hb dL_law_406 ?_
  refine va_sld hx hb hX hbl hbA hS (in_L1 hk (by omega)) dL_law_407 ?_
  have hYY := g_part (X := w2) (Y := w1) hP hD
  refine g_calliF (X := w2) (Y := w1) (va_runV (As := [.int _]) (rest := []) ⟨hx, hb, hml, hown, hts⟩ (H_told l D K _ _ hI hC) (cwV 1 hts gL_law_X2_told rfl rfl rfl (by decide +kernel) ⟨(Nat.le_of_ble_eq_true rfl), (Nat.le_of_ble_eq_true rfl)⟩) (C_pre hK hYY.1 hYY.2 hC) rfl rfl hl.1 rfl (lv_room (Nat.le_of_ble_eq_true rfl)) dL_law_408 ⟨(Nat.le_of_ble_eq_true rfl), (Nat.le_of_ble_eq_true rfl)⟩) hP hD hS hA (fun r1 w3 H locs h1 hP hD hS => ?_)
  obtain ⟨hP, hD⟩ := g_swap hP hD
  refine lv_pop hx hb dL_law_411 rfl ?_
  refine lv_aload_n hx hb dL_law_412 rfl (lv_at hl 1 rfl) ?_
  refine lv_aload_n hx hb dL_law_413 rfl (lv_at hl 3 rfl) ?_
  refine lv_iload_n hx hb dL_law_414 rfl (lv_at hl 0 rfl) ?_
  refine lv_iconst (v := 1) hx hb dL_law_415 (by decide) ?_
  refine lv_iadd hx hb dL_law_416 ?_
  refine va_sld hx hb hX hbl hbA hS (in_L1 hk (by omega)) dL_law_417 ?_
  have hYY := g_part (X := w3) (Y := w2) hP hD
  refine g_calliF (X := w3) (Y := w2) (va_runV (As := [.int _]) (rest := []) ⟨hx, hb, hml, hown, hts⟩ (M_told l D K _ _ hI hW) (cwV 1 hts gL_law_X3_told rfl rfl rfl (by decide +kernel) ⟨(Nat.le_of_ble_eq_true rfl), (Nat.le_of_ble_eq_true rfl)⟩) (M_pre hK hYY.1 hYY.2 hW) rfl rfl hl.1 rfl (lv_room (Nat.le_of_ble_eq_true rfl)) dL_law_418 ⟨(Nat.le_of_ble_eq_true rfl), (Nat.le_of_ble_eq_true rfl)⟩) hP hD hS hA (fun r2 w4 H locs h2 hP hD hS => ?_)
  refine lv_pop hx hb dL_law_421 rfl ?_
  refine lv_goto (tgt := 448) hx hb dL_law_422 (by decide) ?_
  obtain ⟨hP, hD⟩ := g_swap hP hD
  exact hE (z, sd, ow, cn, B, q, li, mh, fl) w3 w4 H locs hI h1.2 h2.2 hP hD hS ls (lv_sub hl [0, 1, 2, 3] rfl)
set_option maxHeartbeats 4000000 in
set_option maxRecDepth 100000 in
theorem law_waiting {p : Program} {l : Launch} {e : Env} {s : State} {m : MethodId} {below : List Frame} {meth : Method} {c : Code} {b L : Nat} {xs : Nat → Int32} (hL : L ≤ 1536) (C0 : lw_At p s m meth c b L xs) {D : va_G} {K : gCl} (hK : va_K D vwCl (gT K) s) {h0 m0 : Nat} {k : Nat} (hk : k + 3 ≤ L) (hE : ∀ (S : HS) (w1 w2 : va_W) (H : Heap) (locs : List Loc), IVS S → CW K h0 S w1 → MW K m0 S w2 → va_P D vwCl (w2 ++ w1) H → va_D (fun q : Nat => s.heap.size ≤ q) (w2 ++ w1) → va_S (fun q : Nat => s.heap.size ≤ q) s.heap H locs → ∀ (ls : Array Slot), lv_has ls 4 [(3, .int (nI k)), (2, .ref m0), (1, .ref h0), (0, .ref b)] → W p l e room_1 s m #[Value.ref b] below meth c H locs 56 799 (lw_Z below #[Value.ref b] s) (F0 m 448 ls [])) {z : Nat → Nat} {sd : Nat → Int32} {ow : Nat → Nat → Int32} {cn : Nat → Int32} {B : Nat} {q : List Pty} {li : List Nat} {mh : Nat} {fl : Int32} {w1 w2 : va_W} (hI : IV z ow B q li mh) (hC : CW K h0 (z, sd, ow, cn, B, q, li, mh, fl) w1) (hW : MW K m0 (z, sd, ow, cn, B, q, li, mh, fl) w2) {H : Heap} {locs : List Loc} (hP : va_P D vwCl (w2 ++ w1) H) (hD : va_D (fun q : Nat => s.heap.size ≤ q) (w2 ++ w1)) (hS : va_S (fun q : Nat => s.heap.size ≤ q) s.heap H locs) {ls : Array Slot} (hl : lv_has ls 4 [(3, .int (nI k)), (2, .ref m0), (1, .ref h0), (0, .ref b)]) :
    W p l e room_1 s m #[Value.ref b] below meth c H locs 56 799 (lw_Z below #[Value.ref b] s) (F0 m 425 ls []) := by
  obtain ⟨hx, hb, hr, hml, hown, hts, hX, hbl, hlocks, hgv⟩ := id C0
  have hts : ∀ w ∈ wsL_law, w.before #[Value.ref b] s = true := fun w h => hts w (wsL_law_in w h)
  have hown : s.vm.findClass RL = some m.cls := hown
  have hA : ∀ q : Nat, s.heap.size ≤ q → (fun q : Nat => s.heap.size ≤ q) q := fun _ h => h
  have hbA : ¬ (fun q : Nat => s.heap.size ≤ q) b := Nat.not_le.mpr hbl
  refine lv_aload_n hx hb dL_law_425 rfl (lv_at hl 2 rfl) ?_
  refine lv_aload_n hx hb dL_law_426 rfl (lv_at hl 3 rfl) ?_
  refine lv_iload_n hx hb dL_law_427 rfl (lv_at hl 0 rfl) ?_
  refine lv_iconst (v := 1) hx hb dL_law_428 (by decide) ?_
  refine lv_iadd hx hb dL_law_429 ?_
  refine va_sld hx hb hX hbl hbA hS (in_L1 hk (by omega)) dL_law_430 ?_
  have hYY := g_part (X := w2) (Y := w1) hP hD
  refine g_calliF (X := w2) (Y := w1) (va_runV (As := [.int _]) (rest := []) ⟨hx, hb, hml, hown, hts⟩ (H_waiting l D K _ _ hI hC) (cwV 1 hts gL_law_X2_waiting rfl rfl rfl (by decide +kernel) ⟨(Nat.le_of_ble_eq_true rfl), (Nat.le_of_ble_eq_true rfl)⟩) (C_pre hK hYY.1 hYY.2 hC) rfl rfl hl.1 rfl (lv_room (Nat.le_of_ble_eq_true rfl)) dL_law_431 ⟨(Nat.le_of_ble_eq_true rfl), (Nat.le_of_ble_eq_true rfl)⟩) hP hD hS hA (fun r1 w3 H locs h1 hP hD hS => ?_)
  obtain ⟨hP, hD⟩ := g_swap hP hD
  refine lv_pop hx hb dL_law_434 rfl ?_
  refine lv_aload_n hx hb dL_law_435 rfl (lv_at hl 1 rfl) ?_
  refine lv_aload_n hx hb dL_law_436 rfl (lv_at hl 3 rfl) ?_
  refine lv_iload_n hx hb dL_law_437 rfl (lv_at hl 0 rfl) ?_
  refine lv_iconst (v := 1) hx hb dL_law_438 (by decide) ?_
  refine lv_iadd hx hb dL_law_439 ?_
  refine va_sld hx hb hX hbl hbA hS (in_L1 hk (by omega)) dL_law_440 ?_
  have hYY := g_part (X := w3) (Y := w2) hP hD
  refine g_calliF (X := w3) (Y := w2) (va_runV (As := [.int _]) (rest := []) ⟨hx, hb, hml, hown, hts⟩ (M_waiting l D K _ _ hI hW) (cwV 1 hts gL_law_X3_waiting rfl rfl rfl (by decide +kernel) ⟨(Nat.le_of_ble_eq_true rfl), (Nat.le_of_ble_eq_true rfl)⟩) (M_pre hK hYY.1 hYY.2 hW) rfl rfl hl.1 rfl (lv_room (Nat.le_of_ble_eq_true rfl)) dL_law_441 ⟨(Nat.le_of_ble_eq_true rfl), (Nat.le_of_ble_eq_true rfl)⟩) hP hD hS hA (fun r2 w4 H locs h2 hP hD hS => ?_)
  refine lv_pop hx hb dL_law_444 rfl ?_
  refine lv_goto (tgt := 448) hx hb dL_law_445 (by decide) ?_
  obtain ⟨hP, hD⟩ := g_swap hP hD
  exact hE (z, sd, ow, cn, B, q, li, mh, fl) w3 w4 H locs hI h1.2 h2.2 hP hD hS ls (lv_sub hl [0, 1, 2, 3] rfl)
set_option maxHeartbeats 4000000 in
set_option maxRecDepth 100000 in
/-- THE LAW'S LOOP -/
theorem law_loop {p : Program} {l : Launch} {e : Env} {s : State} {m : MethodId} {below : List Frame} {meth : Method} {c : Code} {b L : Nat} {xs : Nat → Int32} (hL : L ≤ 1536) (C0 : lw_At p s m meth c b L xs) {D : va_G} {K : gCl} (hK : va_K D vwCl (gT K) s) {h0 m0 : Nat} :
    ∀ (n k : Nat), L + 1 ≤ k + n → k ≤ L + 3 → ∀ (S : HS) (w1 w2 : va_W) (H : Heap) (locs : List Loc), IVS S → CW K h0 S w1 → MW K m0 S w2 → va_P D vwCl (w2 ++ w1) H → va_D (fun q : Nat => s.heap.size ≤ q) (w2 ++ w1) → va_S (fun q : Nat => s.heap.size ≤ q) s.heap H locs → ∀ (ls : Array Slot), lv_has ls 4 [(3, .int (nI k)), (2, .ref m0), (1, .ref h0), (0, .ref b)] → W p l e room_1 s m #[Value.ref b] below meth c H locs 56 799 (lw_Z below #[Value.ref b] s) (F0 m 18 ls []) := by
  obtain ⟨hx, hb, hr, hml, hown, hts, hX, hbl, hlocks, hgv⟩ := id C0
  have hts : ∀ w ∈ wsL_law, w.before #[Value.ref b] s = true := fun w h => hts w (wsL_law_in w h)
  have hown : s.vm.findClass RL = some m.cls := hown
  have hA : ∀ q : Nat, s.heap.size ≤ q → (fun q : Nat => s.heap.size ≤ q) q := fun _ h => h
  have hbA : ¬ (fun q : Nat => s.heap.size ≤ q) b := Nat.not_le.mpr hbl
  have hend : ∀ (H : Heap) (locs : List Loc), va_S (fun q : Nat => s.heap.size ≤ q) s.heap H locs → ∀ (ls : Array Slot), W p l e room_1 s m #[Value.ref b] below meth c H locs 56 799 (lw_Z below #[Value.ref b] s) (F0 m 454 ls []) := fun H locs hS ls => by
    refine lv_iconst (v := 1) hx hb dL_law_454 (by decide) ?_
    refine va_forget (fun q hq => hS.2.2 q hq) ?_
    refine W.widen (k := 600000) (n := 7302250) (Nat.le_of_ble_eq_true rfl) (Nat.le_of_ble_eq_true rfl) ?_
    exact lw_ret hx hb hr hlocks dL_law_455
  intro n
  induction n with
  | zero =>
    intro k hk hk2 S w1 w2 H locs hI hC hW hP hD hS ls hl
    refine lv_iload_n hx hb dL_law_18 rfl (lv_at hl 0 rfl) ?_
    refine lv_aload_n hx hb dL_law_19 rfl (lv_at hl 3 rfl) ?_
    refine va_slen hx hb hX hbl hbA hS dL_law_20 ?_
    refine lv_iconst (v := 3) hx hb dL_law_21 (by decide) ?_
    refine lv_isub hx hb dL_law_22 ?_
    refine lv_icmp_gt (tgt := 454) hx hb dL_law_23 (by decide) (fun c23 => ?_) (fun c23 => absurd ((gt_L (by omega) (by omega)).mpr (by omega)) c23)
    exact hend H locs hS ls
  | succ n ih =>
    intro k hk hk2 S w1 w2 H locs hI hC hW hP hD hS ls hl
    refine lv_iload_n hx hb dL_law_18 rfl (lv_at hl 0 rfl) ?_
    refine lv_aload_n hx hb dL_law_19 rfl (lv_at hl 3 rfl) ?_
    refine va_slen hx hb hX hbl hbA hS dL_law_20 ?_
    refine lv_iconst (v := 3) hx hb dL_law_21 (by decide) ?_
    refine lv_isub hx hb dL_law_22 ?_
    refine lv_icmp_gt (tgt := 454) hx hb dL_law_23 (by decide) (fun c23 => hend H locs hS ls) (fun c23 => ?_)
    have hk3 : k + 3 ≤ L := by
      rcases Nat.lt_or_ge L (k + 3) with q | q
      · exact absurd ((gt_L (by omega) (by omega)).mpr q) c23
      · exact q
    have hE : ∀ (S : HS) (w1 w2 : va_W) (H : Heap) (locs : List Loc), IVS S → CW K h0 S w1 → MW K m0 S w2 → va_P D vwCl (w2 ++ w1) H → va_D (fun q : Nat => s.heap.size ≤ q) (w2 ++ w1) → va_S (fun q : Nat => s.heap.size ≤ q) s.heap H locs → ∀ (ls : Array Slot), lv_has ls 4 [(3, .int (nI k)), (2, .ref m0), (1, .ref h0), (0, .ref b)] → W p l e room_1 s m #[Value.ref b] below meth c H locs 56 799 (lw_Z below #[Value.ref b] s) (F0 m 448 ls []) := fun S w1 w2 H locs hI hC hW hP hD hS ls hl => by
      refine lv_iinc (lv' := [(3, .int _), (2, .ref _), (1, .ref _), (0, .ref _)]) hx hb dL_law_448 hl (k := 0) rfl rfl (by decide) rfl (fun ls hl => ?_)
      refine lv_goto (tgt := 18) hx hb dL_law_451 (by decide) ?_
      rw [inc_3] at hl
      exact ih (k + 3) (by omega) (by omega) S w1 w2 H locs hI hC hW hP hD hS ls (lv_sub hl [0, 1, 2, 3] rfl)
    refine lv_aload_n hx hb dL_law_26 rfl (lv_at hl 3 rfl) ?_
    refine lv_iload_n hx hb dL_law_27 rfl (lv_at hl 0 rfl) ?_
    refine va_sld hx hb hX hbl hbA hS (vp_in_nI (show k < L by omega) (by omega)) dL_law_28 ?_
    refine lv_bipush (v := 15) hx hb dL_law_29 (by decide) ?_
    refine lv_iand hx hb dL_law_31 ?_
    obtain ⟨z, sd, ow, cn, B, q, li, mh, fl⟩ := S
    obtain ⟨j, hj, ej⟩ := pk_andE (xs (nI k).toNatClampNeg) (m := 15) 4 (by decide)
    rcases (show j = 0 ∨ j = 1 ∨ j = 2 ∨ j = 3 ∨ j = 4 ∨ j = 5 ∨ j = 6 ∨ j = 7 ∨ j = 8 ∨ j = 9 ∨ j = 10 ∨ j = 11 ∨ j = 12 ∨ j = 13 ∨ j = 14 ∨ j = 15 by omega) with rfl | rfl | rfl | rfl | rfl | rfl | rfl | rfl | rfl | rfl | rfl | rfl | rfl | rfl | rfl | rfl
    · rw [ej]
      refine lv_tableIn (off := 64) (tgt := 96) hx hb dL_law_32 (by decide) (by decide) rfl (by decide) ?_
      exact law_open hL C0 hK hk3 hE hI hC hW hP hD hS hl
    · rw [ej]
      refine lv_tableIn (off := 97) (tgt := 129) hx hb dL_law_32 (by decide) (by decide) rfl (by decide) ?_
      exact law_shut hL C0 hK hk3 hE hI hC hW hP hD hS hl
    · rw [ej]
      refine lv_tableIn (off := 120) (tgt := 152) hx hb dL_law_32 (by decide) (by decide) rfl (by decide) ?_
      exact law_strict hL C0 hK hk3 hE hI hC hW hP hD hS hl
    · rw [ej]
      refine lv_tableIn (off := 169) (tgt := 201) hx hb dL_law_32 (by decide) (by decide) rfl (by decide) ?_
      exact law_list hL C0 hK hk3 hE hI hC hW hP hD hS hl
    · rw [ej]
      refine lv_tableIn (off := 192) (tgt := 224) hx hb dL_law_32 (by decide) (by decide) rfl (by decide) ?_
      exact law_book hL C0 hK hk3 hE hI hC hW hP hD hS hl
    · rw [ej]
      refine lv_tableIn (off := 225) (tgt := 257) hx hb dL_law_32 (by decide) (by decide) rfl (by decide) ?_
      exact law_cancel hL C0 hK hk3 hE hI hC hW hP hD hS hl
    · rw [ej]
      refine lv_tableIn (off := 248) (tgt := 280) hx hb dL_law_32 (by decide) (by decide) rfl (by decide) ?_
      exact law_leave hL C0 hK hk3 hE hI hC hW hP hD hS hl
    · rw [ej]
      refine lv_tableIn (off := 271) (tgt := 303) hx hb dL_law_32 (by decide) (by decide) rfl (by decide) ?_
      exact law_seat hL C0 hK hk3 hE hI hC hW hP hD hS hl
    · rw [ej]
      refine lv_tableIn (off := 304) (tgt := 336) hx hb dL_law_32 (by decide) (by decide) rfl (by decide) ?_
      exact law_has hL C0 hK hk3 hE hI hC hW hP hD hS hl
    · rw [ej]
      refine lv_tableIn (off := 337) (tgt := 369) hx hb dL_law_32 (by decide) (by decide) rfl (by decide) ?_
      exact law_about hL C0 hK hk3 hE hI hC hW hP hD hS hl
    · rw [ej]
      refine lv_tableIn (off := 370) (tgt := 402) hx hb dL_law_32 (by decide) (by decide) rfl (by decide) ?_
      exact law_told hL C0 hK hk3 hE hI hC hW hP hD hS hl
    · rw [ej]
      refine lv_tableIn (off := 393) (tgt := 425) hx hb dL_law_32 (by decide) (by decide) rfl (by decide) ?_
      exact law_waiting hL C0 hK hk3 hE hI hC hW hP hD hS hl
    · rw [ej]
      refine lv_tableOut (tgt := 448) hx hb dL_law_32 (Or.inr (by decide)) (by decide) ?_
      exact hE (z, sd, ow, cn, B, q, li, mh, fl) w1 w2 H locs hI hC hW hP hD hS ls hl
    · rw [ej]
      refine lv_tableOut (tgt := 448) hx hb dL_law_32 (Or.inr (by decide)) (by decide) ?_
      exact hE (z, sd, ow, cn, B, q, li, mh, fl) w1 w2 H locs hI hC hW hP hD hS ls hl
    · rw [ej]
      refine lv_tableOut (tgt := 448) hx hb dL_law_32 (Or.inr (by decide)) (by decide) ?_
      exact hE (z, sd, ow, cn, B, q, li, mh, fl) w1 w2 H locs hI hC hW hP hD hS ls hl
    · rw [ej]
      refine lv_tableOut (tgt := 448) hx hb dL_law_32 (Or.inr (by decide)) (by decide) ?_
      exact hE (z, sd, ow, cn, B, q, li, mh, fl) w1 w2 H locs hI hC hW hP hD hS ls hl
