/-! THE MODEL'S SEATS -/
def rowOf (g : Nat → Int32) (r : Nat) : Nat → Int32 := fun j => if j < 20 then g (20 * r + j) else 0
theorem rowOf_in {g : Nat → Int32} {r j : Nat} (h : j < 20) : rowOf g r j = g (20 * r + j) := by simp [rowOf, h]
theorem rowOf_upd {g : Nat → Int32} {r i : Nat} {v : Int32} (hi : i < 20) : rowOf (upd g (20 * r + i) v) r = upd (rowOf g r) i v := by
  funext j
  by_cases h : j < 20
  · by_cases e : j = i
    · subst e; simp [rowOf, upd, h]
    · simp [rowOf, upd, h, e]
  · simp [rowOf, upd, h, show j ≠ i by omega]
theorem rowOf_ne {g : Nat → Int32} {r r' i : Nat} {v : Int32} (hi : i < 20) (hr : r' ≠ r) : rowOf (upd g (20 * r + i) v) r' = rowOf g r' := by
  funext j
  by_cases h : j < 20
  · simp [rowOf, upd, h, show 20 * r' + j ≠ 20 * r + i by omega]
  · simp [rowOf, h]
theorem ix_20 {r i : Nat} (hr : r < 10) (hi : i < 20) : (20 * nI r + nI i).toNatClampNeg = 20 * r + i := by
  rw [show (20 : Int32) = nI 20 from rfl, pk_mul, nI_add]
  exact nI_clamp (by omega)
theorem in_20 {r i : Nat} (hr : r < 10) (hi : i < 20) : vp_in (20 * nI r + nI i) 200 := by
  rw [show (20 : Int32) = nI 20 from rfl, pk_mul, nI_add]
  exact vp_in_nI (by omega) (by decide)
theorem mkF_yes {b : Int32} {k i c : Nat} {f : Nat → Int32} (hf : f i = -8) : mkF b (k + 1) i (c + 1) f = mkF b k (i + 1) c (upd f i b) := by
  rw [mkF, if_neg (by omega), if_pos hf, Nat.add_sub_cancel]
theorem mkF_no {b : Int32} {k i c : Nat} {f : Nat → Int32} (hf : f i ≠ -8) : mkF b (k + 1) i (c + 1) f = mkF b k (i + 1) (c + 1) f := by
  rw [mkF, if_neg (by omega), if_neg hf]
theorem mkC_yes {b : Int32} {k i c : Nat} {f : Nat → Int32} (hf : f i = -8) : mkC f (k + 1) i (c + 1) = mkC (upd f i b) k (i + 1) c + 1 := by
  rw [mkC, if_neg (by omega), if_pos hf, Nat.add_sub_cancel, mkC_congr (f := f) (g := upd f i b) k (i + 1) c (fun j hj => (upd_after j hj).symm)]
theorem mkC_no {k i c : Nat} {f : Nat → Int32} (hf : f i ≠ -8) : mkC f (k + 1) i (c + 1) = mkC f k (i + 1) (c + 1) := by
  rw [mkC, if_neg (by omega), if_neg hf]
/-! the model's way to the best stretch -/
def rn (f : Nat → Int32) (z k : Nat) : Nat := runL f (z - k) k
def JM (f : Nat → Int32) (z w i s fo : Nat) : Prop := s ≤ i ∧ (∀ k, k < i → k < z → min (rn f z k) w ≤ min fo w) ∧ (∀ k, k < s → min (rn f z k) w < min fo w) ∧ (fo = rn f z s ∨ (fo = 0 ∧ s = 0 ∧ i = 0)) ∧ s ≤ z
theorem JM_0 {f : Nat → Int32} {z w : Nat} : JM f z w 0 0 0 := ⟨by omega, fun k h => by omega, fun k h => by omega, Or.inr ⟨rfl, rfl, rfl⟩, by omega⟩
theorem rn_mono {f : Nat → Int32} {z i k j : Nat} (hj : j = i + rn f z i) (hjz : j ≤ z) (hs : j < z → f j ≠ -8) (h1 : i ≤ k) (h2 : k ≤ j) : rn f z k ≤ rn f z i := by
  rcases Nat.lt_or_ge j z with q | q
  · have := runL_lt (n := z - k) h2 (hs q)
    unfold rn at hj ⊢
    omega
  · have := runL_le f (z - k) k
    unfold rn at hj ⊢
    omega
theorem JM_up {f : Nat → Int32} {z w i s fo j : Nat} (h : JM f z w i s fo) (hi : i < z) (hw : fo < w) (hj : j = i + rn f z i) (hjz : j ≤ z) (hs : j < z → f j ≠ -8) (hu : fo < rn f z i) : JM f z w (j + 1) i (rn f z i) := by
  obtain ⟨h1, h2, h3, h4, h5⟩ := h
  refine ⟨by omega, fun k hk hkz => ?_, fun k hk => ?_, Or.inl rfl, by omega⟩
  · rcases Nat.lt_or_ge k i with q | q
    · have := h2 k q hkz; omega
    · have := rn_mono hj hjz hs q (by omega); omega
  · have := h2 k hk (by omega); omega
theorem JM_no {f : Nat → Int32} {z w i s fo j : Nat} (h : JM f z w i s fo) (hi : i < z) (hj : j = i + rn f z i) (hjz : j ≤ z) (hs : j < z → f j ≠ -8) (hu : rn f z i ≤ fo) : JM f z w (j + 1) s fo := by
  obtain ⟨h1, h2, h3, h4, h5⟩ := h
  refine ⟨by omega, fun k hk hkz => ?_, h3, ?_, h5⟩
  · rcases Nat.lt_or_ge k i with q | q
    · exact h2 k q hkz
    · have := rn_mono hj hjz hs q (by omega); omega
  · rcases h4 with q | ⟨q1, q2, q3⟩
    · exact Or.inl q
    · left
      rw [q2]
      rw [q3] at hu
      omega
theorem JM_end {f : Nat → Int32} {z w i s fo : Nat} (h : JM f z w i s fo) (hz : 0 < z) (hw : 0 < w) (he : z ≤ i ∨ w ≤ fo) : isBs f z w s ∧ min fo w = valS f z w s := by
  obtain ⟨h1, h2, h3, h4, h5⟩ := h
  have e : fo = rn f z s := by
    rcases h4 with q | ⟨q1, q2, q3⟩
    · exact q
    · omega
  have ev : ∀ k, valS f z w k = min (rn f z k) w := fun k => rfl
  refine ⟨⟨h5, fun k hk => ?_, fun k hk => ?_⟩, by rw [ev, ← e]⟩
  · rw [ev, ev, ← e]
    rcases Nat.lt_or_ge k i with q | q
    · exact h2 k q hk
    · omega
  · rw [ev, ev, ← e]
    exact h3 k hk
theorem rn_full {f : Nat → Int32} {z i j : Nat} (hij : i ≤ j) (hjz : j ≤ z) (hfr : ∀ k, i ≤ k → k < j → f k = -8) (hs : j < z → f j ≠ -8) : j = i + rn f z i := by
  have h1 : j - i ≤ rn f z i := runL_ge f (z - i) i (j - i) (by omega) (fun k a b => hfr k a (by omega))
  have h2 : rn f z i ≤ j - i := by
    rcases Nat.lt_or_ge j z with q | q
    · exact runL_lt hij (hs q)
    · have := runL_le f (z - i) i
      unfold rn; omega
  omega
set_option maxHeartbeats 4000000 in
set_option maxRecDepth 100000 in
theorem lp_mark {p : Program} {l : Launch} {e : Env} {s : State} {m : MethodId} {args : Array Value} {below : List Frame} {meth : Method} {c : Code} {A : Nat → Prop} {D : va_G} {K : gCl} {ws0 : va_W} {rm : Room} {ma : Nat → Nat} {op st zs ho ba se lx cn pe lt le wa ta : Nat → Int32} {th ll wt mh fl wl fd : Int32} {B r z c0 s0 CF : Nat} {FF : Nat → Int32} (hr10 : r < 10) (hz : z ≤ 20) (hsz : zs r = nI z) (hc0 : c0 < 2 ^ 20)
    (I : gIn p s m meth c A yX3_mark wsX3_mark cX3_mark 6 (some .int) args D vwCl (gT K) ws0)  :
    ∀ (k : Nat) (i n : Nat) (g : Nat → Int32) (H : Heap) (locs : List Loc), i + k = z → n ≤ c0 → n + mkC (rowOf g r) k i (c0 - n) = CF → mkF (nI B) k i (c0 - n) (rowOf g r) = FF → (∀ r2, r2 < 10 → r2 ≠ r → rowOf g r2 = rowOf se r2) → va_P D vwCl (mW K ma th ll (nI B) wt mh fl wl fd op st zs ho ba g lx cn pe lt le wa ta) H → va_D A (mW K ma th ll (nI B) wt mh fl wl fd op st zs ho ba g lx cn pe lt le wa ta) → va_S A s.heap H locs →
    ∀ (ls : Array Slot), lv_has ls 6 [(5, .int (nI i)), (4, .int (nI n)), (0, .ref (ma 0)), (1, .int (nI r)), (2, .int (nI s0)), (3, .int (nI c0))] →
    W p l e rm s m args below meth c H locs 0 0 (MQ below (va_Qi (fun r1 w1 => ∃ se1 : Nat → Int32, w1 = mW K ma th ll (nI B) wt mh fl wl fd op st zs ho ba se1 lx cn pe lt le wa ta ∧ r1 = nI CF ∧ rowOf se1 r = FF ∧ ∀ r2, r2 < 10 → r2 ≠ r → rowOf se1 r2 = rowOf se r2) (gB D vwCl (gT K) A) A) args s 0 0 A) (F0 m 6 ls []) := by
  have I0 := I
  obtain ⟨hx, hb, hr, hml, hown, hts, hlocks, hnm, hA, hK, -, -, -⟩ := I
  have hown : s.vm.findClass RX3 = some m.cls := hown
  have hi_X3 : ∀ w ∈ u_ws RX3 TX3 21, w ∈ wsX3_mark := by decide +kernel
  intro k
  induction k with
  | zero =>
    intro i n g H locs hi hn hC hF hO hP hD hS ls hl
    refine lv_iload hx hb dX3_mark_6 (lv_at hl 0 rfl) ?_
    refine lv_aload_n hx hb dX3_mark_8 rfl (lv_at hl 2 rfl) ?_
    refine va_get (C := RX3) (T := TX3) (N := 21) (ci := 3) hx hb hts hi_X3 hown hK hP (0) (rfl) rfl 3 (by decide) (hts (.fieldLink RX3 16 "GroupSeatsModel" "size" "[I") (by decide +kernel)) (fun _ h9 => h9) rfl dX3_mark_9 ?_
    refine lv_iload_n hx hb dX3_mark_12 rfl (lv_at hl 3 rfl) ?_
    refine va_iald hx hb hK hP (3) 0 (rfl) rfl (vp_in_nI (show r < 10 by omega) (by decide)) dX3_mark_13 ?_
    rw [nI_clamp (n := r) (by omega), hsz]
    refine lv_icmp_ge (tgt := 65) hx hb dX3_mark_14 (by decide) (fun c14 => ?_) (fun c14 => ?_)
    · refine lv_iload hx hb dX3_mark_65 (lv_at hl 1 rfl) ?_
      exact g_iret hx hb hr hlocks (Nat.le_of_ble_eq_true rfl) (Nat.le_of_ble_eq_true rfl) hK hP hD hS dX3_mark_67 (⟨g, rfl, by rw [← hC]; rfl, hF, hO⟩)
    · exact absurd (nI_le (by omega) (by omega)) c14
  | succ k ih =>
    intro i n g H locs hi hn hC hF hO hP hD hS ls hl
    refine lv_iload hx hb dX3_mark_6 (lv_at hl 0 rfl) ?_
    refine lv_aload_n hx hb dX3_mark_8 rfl (lv_at hl 2 rfl) ?_
    refine va_get (C := RX3) (T := TX3) (N := 21) (ci := 3) hx hb hts hi_X3 hown hK hP (0) (rfl) rfl 3 (by decide) (hts (.fieldLink RX3 16 "GroupSeatsModel" "size" "[I") (by decide +kernel)) (fun _ h9 => h9) rfl dX3_mark_9 ?_
    refine lv_iload_n hx hb dX3_mark_12 rfl (lv_at hl 3 rfl) ?_
    refine va_iald hx hb hK hP (3) 0 (rfl) rfl (vp_in_nI (show r < 10 by omega) (by decide)) dX3_mark_13 ?_
    rw [nI_clamp (n := r) (by omega), hsz]
    refine lv_icmp_ge (tgt := 65) hx hb dX3_mark_14 (by decide) (fun c14 => ?_) (fun c14 => ?_)
    · exact absurd c14 (nI_ge (by omega) (by omega))
    · refine lv_iload hx hb dX3_mark_17 (lv_at hl 1 rfl) ?_
      refine lv_iload_n hx hb dX3_mark_19 rfl (lv_at hl 5 rfl) ?_
      refine lv_icmp_ge (tgt := 65) hx hb dX3_mark_20 (by decide) (fun c20 => ?_) (fun c20 => ?_)
      · refine lv_iload hx hb dX3_mark_65 (lv_at hl 1 rfl) ?_
        exact g_iret hx hb hr hlocks (Nat.le_of_ble_eq_true rfl) (Nat.le_of_ble_eq_true rfl) hK hP hD hS dX3_mark_67 (by have e0 : c0 - n = 0 := (by have := (nI_leI (by omega) (by omega)).mp c20; omega); rw [e0, mkC_0] at hC; rw [e0, mkF_0] at hF; exact ⟨g, rfl, by rw [← hC]; rfl, hF, hO⟩)
      · have hnc : n < c0 := Nat.lt_of_not_le (fun q => c20 (nI_le q (by omega)))
        refine lv_aload_n hx hb dX3_mark_23 rfl (lv_at hl 2 rfl) ?_
        refine va_get (C := RX3) (T := TX3) (N := 21) (ci := 3) hx hb hts hi_X3 hown hK hP (0) (rfl) rfl 6 (by decide) (hts (.fieldLink RX3 26 "GroupSeatsModel" "seats" "[I") (by decide +kernel)) (fun _ h9 => h9) rfl dX3_mark_24 ?_
        refine lv_bipush (v := 20) hx hb dX3_mark_27 (by decide) ?_
        refine lv_iload_n hx hb dX3_mark_29 rfl (lv_at hl 3 rfl) ?_
        refine lv_imul hx hb dX3_mark_30 ?_
        refine lv_iload hx hb dX3_mark_31 (lv_at hl 0 rfl) ?_
        refine lv_iadd hx hb dX3_mark_33 ?_
        refine va_iald hx hb hK hP (6) 0 (rfl) rfl (in_20 hr10 (show i < 20 by omega)) dX3_mark_34 ?_
        refine lv_bipush (v := -8) hx hb dX3_mark_35 (by decide) ?_
        refine lv_icmp_ne (tgt := 59) hx hb dX3_mark_37 (by decide) (fun c37 => ?_) (fun c37 => ?_)
        · refine lv_iinc (lv' := [(5, .int _), (4, .int _), (0, .ref _), (1, .int _), (2, .int _), (3, .int _)]) hx hb dX3_mark_59 hl (k := 0) rfl rfl (by decide) rfl (fun ls hl => ?_)
          refine lv_goto (tgt := 6) hx hb dX3_mark_62 (by decide) ?_
          rw [ix_20 hr10 (by omega), ← rowOf_in (g := g) (r := r) (show i < 20 by omega)] at c37
          have hc1 : c0 - n = (c0 - (n + 1)) + 1 := by omega
          rw [hc1] at hC hF
          rw [mkC_no c37] at hC
          rw [mkF_no c37] at hF
          rw [← hc1] at hC hF
          rw [g_inc] at hl
          exact ih (i + 1) n g H locs (by omega) hn hC hF hO hP hD hS ls (lv_sub hl [0, 1, 2, 3, 4, 5] rfl)
        · refine lv_aload_n hx hb dX3_mark_40 rfl (lv_at hl 2 rfl) ?_
          refine va_get (C := RX3) (T := TX3) (N := 21) (ci := 3) hx hb hts hi_X3 hown hK hP (0) (rfl) rfl 6 (by decide) (hts (.fieldLink RX3 26 "GroupSeatsModel" "seats" "[I") (by decide +kernel)) (fun _ h9 => h9) rfl dX3_mark_41 ?_
          refine lv_bipush (v := 20) hx hb dX3_mark_44 (by decide) ?_
          refine lv_iload_n hx hb dX3_mark_46 rfl (lv_at hl 3 rfl) ?_
          refine lv_imul hx hb dX3_mark_47 ?_
          refine lv_iload hx hb dX3_mark_48 (lv_at hl 0 rfl) ?_
          refine lv_iadd hx hb dX3_mark_50 ?_
          refine lv_aload_n hx hb dX3_mark_51 rfl (lv_at hl 2 rfl) ?_
          refine va_get (C := RX3) (T := TX3) (N := 21) (ci := 3) hx hb hts hi_X3 hown hK hP (0) (rfl) rfl 9 (by decide) (hts (.fieldLink RX3 54 "GroupSeatsModel" "bookings" "I") (by decide +kernel)) (fun _ h9 => h9) rfl dX3_mark_52 ?_
          refine va_iast hx hb hK hP hD hS (6) 0 (rfl) rfl (in_20 hr10 (show i < 20 by omega)) dX3_mark_55 (fun H locs hP hD hS => ?_)
          have hP : va_P D vwCl (mW K ma th ll (nI B) wt mh fl wl fd op st zs ho ba (upd g (20 * nI r + nI i).toNatClampNeg (nI B)) lx cn pe lt le wa ta) H := hP
          have hD : va_D A (mW K ma th ll (nI B) wt mh fl wl fd op st zs ho ba (upd g (20 * nI r + nI i).toNatClampNeg (nI B)) lx cn pe lt le wa ta) := hD
          refine lv_iinc (lv' := [(4, .int _), (5, .int _), (0, .ref _), (1, .int _), (2, .int _), (3, .int _)]) hx hb dX3_mark_56 hl (k := 1) rfl rfl (by decide) rfl (fun ls hl => ?_)
          refine lv_iinc (lv' := [(5, .int _), (4, .int _), (0, .ref _), (1, .int _), (2, .int _), (3, .int _)]) hx hb dX3_mark_59 hl (k := 1) rfl rfl (by decide) rfl (fun ls hl => ?_)
          refine lv_goto (tgt := 6) hx hb dX3_mark_62 (by decide) ?_
          rw [ix_20 hr10 (by omega), ← rowOf_in (g := g) (r := r) (show i < 20 by omega)] at c37
          have hc1 : c0 - n = (c0 - (n + 1)) + 1 := by omega
          rw [hc1] at hC hF
          rw [ix_20 hr10 (by omega)] at hP hD
          rw [mkC_yes (b := nI B) c37] at hC
          rw [mkF_yes c37] at hF
          rw [g_inc, g_inc] at hl
          exact ih (i + 1) (n + 1) (upd g (20 * r + i) (nI B)) H locs (by omega) (by omega) (by rw [rowOf_upd (by omega)]; omega) (by rw [rowOf_upd (by omega)]; exact hF) (fun r2 h2 h3 => by rw [rowOf_ne (by omega) h3]; exact hO r2 h2 h3) hP hD hS ls (lv_sub hl [0, 1, 2, 3, 4, 5] rfl)
set_option maxHeartbeats 4000000 in
set_option maxRecDepth 100000 in
/-- the model: mark -/
theorem m_mark (l : Launch) (D : va_G) (K : gCl) (ma : Nat → Nat) (op st zs ho ba se lx cn pe lt le wa ta : Nat → Int32) (th ll wt mh fl wl fd : Int32) (B r z s0 c0 : Nat) (sz : Nat) (hr10 : r < 10) (hz : z ≤ 20) (hsz : zs r = nI z) (hc0 : c0 < 2 ^ 20) (hs0 : s0 ≤ z) : gMi l yX3_mark wsX3_mark ({ frames := 0, cells := 0, slots := 0, locals := 0 } : Room) D vwCl (gT K) [.ref (ma 0), .int (nI r), .int (nI s0), .int (nI c0)] (mW K ma th ll (nI B) wt mh fl wl fd op st zs ho ba se lx cn pe lt le wa ta) sz (fun r1 w1 => ∃ se1 : Nat → Int32, w1 = mW K ma th ll (nI B) wt mh fl wl fd op st zs ho ba se1 lx cn pe lt le wa ta ∧ r1 = nI (mkC (rowOf se r) (z - s0) s0 c0) ∧ rowOf se1 r = mkF (nI B) (z - s0) s0 c0 (rowOf se r) ∧ ∀ r2, r2 < 10 → r2 ≠ r → rowOf se1 r2 = rowOf se r2) 0 0 := by
  refine g_of (cc := cX3_mark) (maxL := 6) (ret := (some .int)) (Qc := fun A => va_Qi (fun r1 w1 => ∃ se1 : Nat → Int32, w1 = mW K ma th ll (nI B) wt mh fl wl fd op st zs ho ba se1 lx cn pe lt le wa ta ∧ r1 = nI (mkC (rowOf se r) (z - s0) s0 c0) ∧ rowOf se1 r = mkF (nI B) (z - s0) s0 c0 (rowOf se r) ∧ ∀ r2, r2 < 10 → r2 ≠ r → rowOf se1 r2 = rowOf se r2) (gB D vwCl (gT K) A) A) (by decide) rfl (Nat.le_of_ble_eq_true rfl) ?_
  intro p e s m below meth c A ls I hl
  have I0 := I
  obtain ⟨hx, hb, hr, hml, hown, hts, hlocks, hnm, hA, hK, hP, hD, hS⟩ := I
  have hown : s.vm.findClass RX3 = some m.cls := hown
  have hl : lv_has ls 6 [(0, .ref (ma 0)), (1, .int (nI r)), (2, .int (nI s0)), (3, .int (nI c0))] := hl
  have hi_X3 : ∀ w ∈ u_ws RX3 TX3 21, w ∈ wsX3_mark := by decide +kernel
  refine lv_iconst (v := 0) hx hb dX3_mark_0 (by decide) ?_
  refine lv_istore (lv' := [(4, .int _), (0, .ref _), (1, .int _), (2, .int _), (3, .int _)]) hx hb dX3_mark_1 hl (by decide) rfl (fun ls hl => ?_)
  refine lv_iload_n hx hb dX3_mark_3 rfl (lv_at hl 3 rfl) ?_
  refine lv_istore (lv' := [(5, .int _), (4, .int _), (0, .ref _), (1, .int _), (2, .int _), (3, .int _)]) hx hb dX3_mark_4 hl (by decide) rfl (fun ls hl => ?_)
  exact lp_mark (CF := mkC (rowOf se r) (z - s0) s0 c0) (FF := mkF (nI B) (z - s0) s0 c0 (rowOf se r)) hr10 hz hsz hc0 I0 (z - s0) s0 0 se _ _ (by omega) (by omega) (by rw [Nat.zero_add]; rfl) rfl (fun _ _ _ => rfl) hP hD hS ls (lv_sub hl [0, 1, 2, 3, 4, 5] rfl)
set_option maxHeartbeats 4000000 in
set_option maxRecDepth 100000 in
theorem lp_str1 {p : Program} {l : Launch} {e : Env} {s : State} {m : MethodId} {args : Array Value} {below : List Frame} {meth : Method} {c : Code} {A : Nat → Prop} {D : va_G} {K : gCl} {ws0 : va_W} {rm : Room} {ma : Nat → Nat} {op st zs ho ba se lx cn pe lt le wa ta : Nat → Int32} {th ll B wt mh fl wl : Int32} {r z w i s0 fo : Nat} {post : Int32 → va_W → Prop} (hr10 : r < 10) (hz : z ≤ 20) (hsz : zs r = nI z)
    (I : gIn p s m meth c A yX3_stretch wsX3_stretch cX3_stretch 6 (some .int) args D vwCl (gT K) ws0) (hE : ∀ (j : Nat) (H : Heap) (locs : List Loc), i ≤ j → j ≤ z → j = i + rn (rowOf se r) z i → (j < z → (rowOf se r) j ≠ -8) → va_P D vwCl (mW K ma th ll B wt mh fl wl (nI fo) op st zs ho ba se lx cn pe lt le wa ta) H → va_D A (mW K ma th ll B wt mh fl wl (nI fo) op st zs ho ba se lx cn pe lt le wa ta) → va_S A s.heap H locs → ∀ (ls : Array Slot), lv_has ls 6 [(5, .int (nI j)), (4, .int (nI i)), (3, .int (nI s0)), (0, .ref (ma 0)), (1, .int (nI r)), (2, .int (nI w))] → W p l e rm s m args below meth c H locs 0 0 (MQ below (va_Qi (post) (gB D vwCl (gT K) A) A) args s 0 0 A) (F0 m 67 ls [])) :
    ∀ (k : Nat) (j : Nat) (H : Heap) (locs : List Loc), j + k = z → i ≤ j → (∀ t, i ≤ t → t < j → (rowOf se r) t = -8) → va_P D vwCl (mW K ma th ll B wt mh fl wl (nI fo) op st zs ho ba se lx cn pe lt le wa ta) H → va_D A (mW K ma th ll B wt mh fl wl (nI fo) op st zs ho ba se lx cn pe lt le wa ta) → va_S A s.heap H locs →
    ∀ (ls : Array Slot), lv_has ls 6 [(5, .int (nI j)), (4, .int (nI i)), (3, .int (nI s0)), (0, .ref (ma 0)), (1, .int (nI r)), (2, .int (nI w))] →
    W p l e rm s m args below meth c H locs 0 0 (MQ below (va_Qi (post) (gB D vwCl (gT K) A) A) args s 0 0 A) (F0 m 33 ls []) := by
  have I0 := I
  obtain ⟨hx, hb, hr, hml, hown, hts, hlocks, hnm, hA, hK, -, -, -⟩ := I
  have hown : s.vm.findClass RX3 = some m.cls := hown
  have hi_X3 : ∀ w ∈ u_ws RX3 TX3 21, w ∈ wsX3_stretch := by decide +kernel
  intro k
  induction k with
  | zero =>
    intro j H locs hi hij hfr hP hD hS ls hl
    refine lv_iload hx hb dX3_stretch_33 (lv_at hl 0 rfl) ?_
    refine lv_aload_n hx hb dX3_stretch_35 rfl (lv_at hl 3 rfl) ?_
    refine va_get (C := RX3) (T := TX3) (N := 21) (ci := 3) hx hb hts hi_X3 hown hK hP (0) (rfl) rfl 3 (by decide) (hts (.fieldLink RX3 16 "GroupSeatsModel" "size" "[I") (by decide +kernel)) (fun _ h9 => h9) rfl dX3_stretch_36 ?_
    refine lv_iload_n hx hb dX3_stretch_39 rfl (lv_at hl 4 rfl) ?_
    refine va_iald hx hb hK hP (3) 0 (rfl) rfl (vp_in_nI (show r < 10 by omega) (by decide)) dX3_stretch_40 ?_
    rw [nI_clamp (n := r) (by omega), hsz]
    refine lv_icmp_ge (tgt := 67) hx hb dX3_stretch_41 (by decide) (fun c41 => ?_) (fun c41 => ?_)
    · exact hE j H locs hij (by omega) (rn_full hij (by omega) hfr (fun q => by omega)) (fun q => by omega) hP hD hS ls (lv_sub hl [0, 1, 2, 3, 4, 5] rfl)
    · exact absurd (nI_le (by omega) (by omega)) c41
  | succ k ih =>
    intro j H locs hi hij hfr hP hD hS ls hl
    refine lv_iload hx hb dX3_stretch_33 (lv_at hl 0 rfl) ?_
    refine lv_aload_n hx hb dX3_stretch_35 rfl (lv_at hl 3 rfl) ?_
    refine va_get (C := RX3) (T := TX3) (N := 21) (ci := 3) hx hb hts hi_X3 hown hK hP (0) (rfl) rfl 3 (by decide) (hts (.fieldLink RX3 16 "GroupSeatsModel" "size" "[I") (by decide +kernel)) (fun _ h9 => h9) rfl dX3_stretch_36 ?_
    refine lv_iload_n hx hb dX3_stretch_39 rfl (lv_at hl 4 rfl) ?_
    refine va_iald hx hb hK hP (3) 0 (rfl) rfl (vp_in_nI (show r < 10 by omega) (by decide)) dX3_stretch_40 ?_
    rw [nI_clamp (n := r) (by omega), hsz]
    refine lv_icmp_ge (tgt := 67) hx hb dX3_stretch_41 (by decide) (fun c41 => ?_) (fun c41 => ?_)
    · exact absurd c41 (nI_ge (by omega) (by omega))
    · refine lv_aload_n hx hb dX3_stretch_44 rfl (lv_at hl 3 rfl) ?_
      refine va_get (C := RX3) (T := TX3) (N := 21) (ci := 3) hx hb hts hi_X3 hown hK hP (0) (rfl) rfl 6 (by decide) (hts (.fieldLink RX3 26 "GroupSeatsModel" "seats" "[I") (by decide +kernel)) (fun _ h9 => h9) rfl dX3_stretch_45 ?_
      refine lv_bipush (v := 20) hx hb dX3_stretch_48 (by decide) ?_
      refine lv_iload_n hx hb dX3_stretch_50 rfl (lv_at hl 4 rfl) ?_
      refine lv_imul hx hb dX3_stretch_51 ?_
      refine lv_iload hx hb dX3_stretch_52 (lv_at hl 0 rfl) ?_
      refine lv_iadd hx hb dX3_stretch_54 ?_
      refine va_iald hx hb hK hP (6) 0 (rfl) rfl (in_20 hr10 (show j < 20 by omega)) dX3_stretch_55 ?_
      refine lv_bipush (v := -8) hx hb dX3_stretch_56 (by decide) ?_
      refine lv_icmp_ne (tgt := 67) hx hb dX3_stretch_58 (by decide) (fun c58 => ?_) (fun c58 => ?_)
      · rw [ix_20 hr10 (by omega), ← rowOf_in (g := se) (r := r) (show j < 20 by omega)] at c58
        exact hE j H locs hij (by omega) (rn_full hij (by omega) hfr (fun _ => c58)) (fun _ => c58) hP hD hS ls (lv_sub hl [0, 1, 2, 3, 4, 5] rfl)
      · refine lv_iinc (lv' := [(5, .int _), (4, .int _), (3, .int _), (0, .ref _), (1, .int _), (2, .int _)]) hx hb dX3_stretch_61 hl (k := 0) rfl rfl (by decide) rfl (fun ls hl => ?_)
        refine lv_goto (tgt := 33) hx hb dX3_stretch_64 (by decide) ?_
        rw [ix_20 hr10 (by omega), ← rowOf_in (g := se) (r := r) (show j < 20 by omega)] at c58
        rw [g_inc] at hl
        exact ih (j + 1) H locs (by omega) (by omega) (fun t h1 h2 => (Nat.lt_or_eq_of_le (Nat.le_of_lt_succ h2)).elim (fun q => hfr t h1 q) (fun q => by rw [q]; exact c58)) hP hD hS ls (lv_sub hl [0, 1, 2, 3, 4, 5] rfl)
set_option maxHeartbeats 4000000 in
set_option maxRecDepth 100000 in
theorem lp_str2 {p : Program} {l : Launch} {e : Env} {s : State} {m : MethodId} {args : Array Value} {below : List Frame} {meth : Method} {c : Code} {A : Nat → Prop} {D : va_G} {K : gCl} {ws0 : va_W} {rm : Room} {ma : Nat → Nat} {op st zs ho ba se lx cn pe lt le wa ta : Nat → Int32} {th ll B wt mh fl wl : Int32} {r z w : Nat} (hr10 : r < 10) (hz : z ≤ 20) (hz0 : 0 < z) (hsz : zs r = nI z) (hw : w < 2 ^ 20) (hw0 : 0 < w)
    (I : gIn p s m meth c A yX3_stretch wsX3_stretch cX3_stretch 6 (some .int) args D vwCl (gT K) ws0)  :
    ∀ (k : Nat) (i s0 fo : Nat) (H : Heap) (locs : List Loc), z + 1 ≤ i + k → i ≤ z + 1 → fo ≤ 20 → JM (rowOf se r) z w i s0 fo → va_P D vwCl (mW K ma th ll B wt mh fl wl (nI fo) op st zs ho ba se lx cn pe lt le wa ta) H → va_D A (mW K ma th ll B wt mh fl wl (nI fo) op st zs ho ba se lx cn pe lt le wa ta) → va_S A s.heap H locs →
    ∀ (ls : Array Slot), lv_has ls 6 [(4, .int (nI i)), (3, .int (nI s0)), (0, .ref (ma 0)), (1, .int (nI r)), (2, .int (nI w))] →
    W p l e rm s m args below meth c H locs 0 0 (MQ below (va_Qi (fun r1 w1 => ∃ (x fo : Nat), r1 = nI x ∧ isBs (rowOf se r) z w x ∧ min fo w = valS (rowOf se r) z w x ∧ fo ≤ 20 ∧ w1 = mW K ma th ll B wt mh fl wl (nI fo) op st zs ho ba se lx cn pe lt le wa ta) (gB D vwCl (gT K) A) A) args s 0 0 A) (F0 m 10 ls []) := by
  have I0 := I
  obtain ⟨hx, hb, hr, hml, hown, hts, hlocks, hnm, hA, hK, -, -, -⟩ := I
  have hown : s.vm.findClass RX3 = some m.cls := hown
  have hi_X3 : ∀ w ∈ u_ws RX3 TX3 21, w ∈ wsX3_stretch := by decide +kernel
  intro k
  induction k with
  | zero =>
    intro i s0 fo H locs hi hi2 hf20 hJ hP hD hS ls hl
    refine lv_iload hx hb dX3_stretch_10 (lv_at hl 0 rfl) ?_
    refine lv_aload_n hx hb dX3_stretch_12 rfl (lv_at hl 2 rfl) ?_
    refine va_get (C := RX3) (T := TX3) (N := 21) (ci := 3) hx hb hts hi_X3 hown hK hP (0) (rfl) rfl 3 (by decide) (hts (.fieldLink RX3 16 "GroupSeatsModel" "size" "[I") (by decide +kernel)) (fun _ h9 => h9) rfl dX3_stretch_13 ?_
    refine lv_iload_n hx hb dX3_stretch_16 rfl (lv_at hl 3 rfl) ?_
    refine va_iald hx hb hK hP (3) 0 (rfl) rfl (vp_in_nI (show r < 10 by omega) (by decide)) dX3_stretch_17 ?_
    rw [nI_clamp (n := r) (by omega), hsz]
    refine lv_icmp_ge (tgt := 100) hx hb dX3_stretch_18 (by decide) (fun c18 => ?_) (fun c18 => ?_)
    · refine lv_iload_n hx hb dX3_stretch_100 rfl (lv_at hl 1 rfl) ?_
      exact g_iret hx hb hr hlocks (Nat.le_of_ble_eq_true rfl) (Nat.le_of_ble_eq_true rfl) hK hP hD hS dX3_stretch_101 (by obtain ⟨j1, j2⟩ := JM_end hJ hz0 hw0 (Or.inl ((nI_leI (by omega) (by omega)).mp c18)); exact ⟨s0, fo, rfl, j1, j2, hf20, rfl⟩)
    · exact absurd (nI_le (by omega) (by omega)) c18
  | succ k ih =>
    intro i s0 fo H locs hi hi2 hf20 hJ hP hD hS ls hl
    refine lv_iload hx hb dX3_stretch_10 (lv_at hl 0 rfl) ?_
    refine lv_aload_n hx hb dX3_stretch_12 rfl (lv_at hl 2 rfl) ?_
    refine va_get (C := RX3) (T := TX3) (N := 21) (ci := 3) hx hb hts hi_X3 hown hK hP (0) (rfl) rfl 3 (by decide) (hts (.fieldLink RX3 16 "GroupSeatsModel" "size" "[I") (by decide +kernel)) (fun _ h9 => h9) rfl dX3_stretch_13 ?_
    refine lv_iload_n hx hb dX3_stretch_16 rfl (lv_at hl 3 rfl) ?_
    refine va_iald hx hb hK hP (3) 0 (rfl) rfl (vp_in_nI (show r < 10 by omega) (by decide)) dX3_stretch_17 ?_
    rw [nI_clamp (n := r) (by omega), hsz]
    refine lv_icmp_ge (tgt := 100) hx hb dX3_stretch_18 (by decide) (fun c18 => ?_) (fun c18 => ?_)
    · refine lv_iload_n hx hb dX3_stretch_100 rfl (lv_at hl 1 rfl) ?_
      exact g_iret hx hb hr hlocks (Nat.le_of_ble_eq_true rfl) (Nat.le_of_ble_eq_true rfl) hK hP hD hS dX3_stretch_101 (by obtain ⟨j1, j2⟩ := JM_end hJ hz0 hw0 (Or.inl ((nI_leI (by omega) (by omega)).mp c18)); exact ⟨s0, fo, rfl, j1, j2, hf20, rfl⟩)
    · have hiz : i < z := Nat.lt_of_not_le (fun q => c18 (nI_le q (by omega)))
      refine lv_aload_n hx hb dX3_stretch_21 rfl (lv_at hl 2 rfl) ?_
      refine va_get (C := RX3) (T := TX3) (N := 21) (ci := 3) hx hb hts hi_X3 hown hK hP (0) (rfl) rfl 20 (by decide) (hts (.fieldLink RX3 57 "GroupSeatsModel" "found" "I") (by decide +kernel)) (fun _ h9 => h9) rfl dX3_stretch_22 ?_
      refine lv_iload_n hx hb dX3_stretch_25 rfl (lv_at hl 4 rfl) ?_
      refine lv_icmp_ge (tgt := 100) hx hb dX3_stretch_26 (by decide) (fun c26 => ?_) (fun c26 => ?_)
      · refine lv_iload_n hx hb dX3_stretch_100 rfl (lv_at hl 1 rfl) ?_
        exact g_iret hx hb hr hlocks (Nat.le_of_ble_eq_true rfl) (Nat.le_of_ble_eq_true rfl) hK hP hD hS dX3_stretch_101 (by obtain ⟨j1, j2⟩ := JM_end hJ hz0 hw0 (Or.inr ((nI_leI (by omega) (by omega)).mp c26)); exact ⟨s0, fo, rfl, j1, j2, hf20, rfl⟩)
      · refine lv_iload hx hb dX3_stretch_29 (lv_at hl 0 rfl) ?_
        refine lv_istore (lv' := [(5, .int _), (4, .int _), (3, .int _), (0, .ref _), (1, .int _), (2, .int _)]) hx hb dX3_stretch_31 hl (by decide) rfl (fun ls hl => ?_)
        have hfw : fo < w := Nat.lt_of_not_le (fun q => c26 (nI_le q (by omega)))
        refine lp_str1 (i := i) (w := w) hr10 hz hsz I0 ?_ (z - i) i _ _ (by omega) (by omega) (fun t h1 h2 => by omega) hP hD hS ls (lv_sub hl [0, 1, 2, 3, 4, 5] rfl)
        intro j H locs hij hjz hjr hjs hP hD hS ls hl
        refine lv_iload hx hb dX3_stretch_67 (lv_at hl 0 rfl) ?_
        refine lv_iload hx hb dX3_stretch_69 (lv_at hl 1 rfl) ?_
        refine lv_isub hx hb dX3_stretch_71 ?_
        refine lv_aload_n hx hb dX3_stretch_72 rfl (lv_at hl 3 rfl) ?_
        refine va_get (C := RX3) (T := TX3) (N := 21) (ci := 3) hx hb hts hi_X3 hown hK hP (0) (rfl) rfl 20 (by decide) (hts (.fieldLink RX3 57 "GroupSeatsModel" "found" "I") (by decide +kernel)) (fun _ h9 => h9) rfl dX3_stretch_73 ?_
        rw [pk_sub hij]
        refine lv_icmp_le (tgt := 91) hx hb dX3_stretch_76 (by decide) (fun c76 => ?_) (fun c76 => ?_)
        · refine lv_iload hx hb dX3_stretch_91 (lv_at hl 0 rfl) ?_
          refine lv_iconst (v := 1) hx hb dX3_stretch_93 (by decide) ?_
          refine lv_iadd hx hb dX3_stretch_94 ?_
          refine lv_istore (lv' := [(4, .int _), (5, .int _), (3, .int _), (0, .ref _), (1, .int _), (2, .int _)]) hx hb dX3_stretch_95 hl (by decide) rfl (fun ls hl => ?_)
          refine lv_goto (tgt := 10) hx hb dX3_stretch_97 (by decide) ?_
          have hu := (nI_leI (by omega) (by omega)).mp c76
          rw [nI_1] at hl
          exact ih (j + 1) s0 fo H locs (by omega) (by omega) hf20 (JM_no hJ (by omega) hjr hjz hjs (by omega)) hP hD hS ls (lv_sub hl [0, 2, 3, 4, 5] rfl)
        · refine lv_iload hx hb dX3_stretch_79 (lv_at hl 1 rfl) ?_
          refine lv_istore_n (lv' := [(3, .int _), (5, .int _), (4, .int _), (0, .ref _), (1, .int _), (2, .int _)]) hx hb dX3_stretch_81 rfl hl (by decide) rfl (fun ls hl => ?_)
          refine lv_aload_n hx hb dX3_stretch_82 rfl (lv_at hl 3 rfl) ?_
          refine lv_iload hx hb dX3_stretch_83 (lv_at hl 1 rfl) ?_
          refine lv_iload hx hb dX3_stretch_85 (lv_at hl 2 rfl) ?_
          refine lv_isub hx hb dX3_stretch_87 ?_
          refine va_put (C := RX3) (T := TX3) (N := 21) (ci := 3) (ty := .int) hx hb hts hi_X3 tyX3 tyX3_ok nmX3 hown hK hP hD hS (0) (rfl) rfl 20 (by decide) (hts (.fieldLink RX3 57 "GroupSeatsModel" "found" "I") (by decide +kernel)) (fun _ h9 => h9) rfl (by decide +kernel) rfl rfl (Nat.le_of_ble_eq_true rfl) dX3_stretch_88 (fun H locs hP hD hS => ?_)
          rw [pk_sub hij] at hP hD
          have hP : va_P D vwCl (mW K ma th ll B wt mh fl wl (nI (j - i)) op st zs ho ba se lx cn pe lt le wa ta) H := hP
          have hD : va_D A (mW K ma th ll B wt mh fl wl (nI (j - i)) op st zs ho ba se lx cn pe lt le wa ta) := hD
          refine lv_iload hx hb dX3_stretch_91 (lv_at hl 1 rfl) ?_
          refine lv_iconst (v := 1) hx hb dX3_stretch_93 (by decide) ?_
          refine lv_iadd hx hb dX3_stretch_94 ?_
          refine lv_istore (lv' := [(4, .int _), (3, .int _), (5, .int _), (0, .ref _), (1, .int _), (2, .int _)]) hx hb dX3_stretch_95 hl (by decide) rfl (fun ls hl => ?_)
          refine lv_goto (tgt := 10) hx hb dX3_stretch_97 (by decide) ?_
          have hu : fo < j - i := Nat.lt_of_not_le (fun q => c76 (nI_le q (by omega)))
          rw [nI_1] at hl
          have e9 : j - i = rn (rowOf se r) z i := by omega
          rw [e9] at hP hD
          exact ih (j + 1) i (rn (rowOf se r) z i) H locs (by omega) (by omega) (by omega) (JM_up hJ (by omega) hfw hjr hjz hjs (by omega)) hP hD hS ls (lv_sub hl [0, 1, 3, 4, 5] rfl)
set_option maxHeartbeats 4000000 in
set_option maxRecDepth 100000 in
/-- the model: stretch -/
theorem m_stretch (l : Launch) (D : va_G) (K : gCl) (ma : Nat → Nat) (op st zs ho ba se lx cn pe lt le wa ta : Nat → Int32) (th ll B wt mh fl wl fd : Int32) (r z w : Nat) (sz : Nat) (hr10 : r < 10) (hz : z ≤ 20) (hz0 : 0 < z) (hsz : zs r = nI z) (hw : w < 2 ^ 20) (hw0 : 0 < w) : gMi l yX3_stretch wsX3_stretch ({ frames := 0, cells := 0, slots := 0, locals := 0 } : Room) D vwCl (gT K) [.ref (ma 0), .int (nI r), .int (nI w)] (mW K ma th ll B wt mh fl wl fd op st zs ho ba se lx cn pe lt le wa ta) sz (fun r1 w1 => ∃ (x fo : Nat), r1 = nI x ∧ isBs (rowOf se r) z w x ∧ min fo w = valS (rowOf se r) z w x ∧ fo ≤ 20 ∧ w1 = mW K ma th ll B wt mh fl wl (nI fo) op st zs ho ba se lx cn pe lt le wa ta) 0 0 := by
  refine g_of (cc := cX3_stretch) (maxL := 6) (ret := (some .int)) (Qc := fun A => va_Qi (fun r1 w1 => ∃ (x fo : Nat), r1 = nI x ∧ isBs (rowOf se r) z w x ∧ min fo w = valS (rowOf se r) z w x ∧ fo ≤ 20 ∧ w1 = mW K ma th ll B wt mh fl wl (nI fo) op st zs ho ba se lx cn pe lt le wa ta) (gB D vwCl (gT K) A) A) (by decide) rfl (Nat.le_of_ble_eq_true rfl) ?_
  intro p e s m below meth c A ls I hl
  have I0 := I
  obtain ⟨hx, hb, hr, hml, hown, hts, hlocks, hnm, hA, hK, hP, hD, hS⟩ := I
  have hown : s.vm.findClass RX3 = some m.cls := hown
  have hl : lv_has ls 6 [(0, .ref (ma 0)), (1, .int (nI r)), (2, .int (nI w))] := hl
  have hi_X3 : ∀ w ∈ u_ws RX3 TX3 21, w ∈ wsX3_stretch := by decide +kernel
  refine lv_iconst (v := 0) hx hb dX3_stretch_0 (by decide) ?_
  refine lv_istore_n (lv' := [(3, .int _), (0, .ref _), (1, .int _), (2, .int _)]) hx hb dX3_stretch_1 rfl hl (by decide) rfl (fun ls hl => ?_)
  refine lv_aload_n hx hb dX3_stretch_2 rfl (lv_at hl 1 rfl) ?_
  refine lv_iconst (v := 0) hx hb dX3_stretch_3 (by decide) ?_
  refine va_put (C := RX3) (T := TX3) (N := 21) (ci := 3) (ty := .int) hx hb hts hi_X3 tyX3 tyX3_ok nmX3 hown hK hP hD hS (0) (rfl) rfl 20 (by decide) (hts (.fieldLink RX3 57 "GroupSeatsModel" "found" "I") (by decide +kernel)) (fun _ h9 => h9) rfl (by decide +kernel) rfl rfl (Nat.le_of_ble_eq_true rfl) dX3_stretch_4 (fun H locs hP hD hS => ?_)
  have hP : va_P D vwCl (mW K ma th ll B wt mh fl wl (nI 0) op st zs ho ba se lx cn pe lt le wa ta) H := hP
  have hD : va_D A (mW K ma th ll B wt mh fl wl (nI 0) op st zs ho ba se lx cn pe lt le wa ta) := hD
  refine lv_iconst (v := 0) hx hb dX3_stretch_7 (by decide) ?_
  refine lv_istore (lv' := [(4, .int _), (3, .int _), (0, .ref _), (1, .int _), (2, .int _)]) hx hb dX3_stretch_8 hl (by decide) rfl (fun ls hl => ?_)
  exact lp_str2 hr10 hz hz0 hsz hw hw0 I0 (z + 1) 0 0 0 _ _ (by omega) (by omega) (by omega) JM_0 hP hD hS ls (lv_sub hl [0, 1, 2, 3, 4] rfl)
set_option maxHeartbeats 4000000 in
set_option maxRecDepth 100000 in
/-- the model: takes -/
theorem m_takes (l : Launch) (D : va_G) (K : gCl) (ma : Nat → Nat) (op st zs ho ba se lx cn pe lt le wa ta : Nat → Int32) (th ll wt mh fl wl fd : Int32) (B r z w : Nat) (sz : Nat) (hr10 : r < 10) (hz : z ≤ 20) (hz0 : 0 < z) (hsz : zs r = nI z) (hw : w < 2 ^ 20) (hw0 : 0 < w) : gMi l yX3_takes wsX3_takes ({ frames := 1, cells := 0, slots := 0, locals := 40 } : Room) D vwCl (gT K) [.ref (ma 0), .int (nI r), .int (nI w)] (mW K ma th ll (nI B) wt mh fl wl fd op st zs ho ba se lx cn pe lt le wa ta) sz (fun r1 w1 => ∃ (se1 : Nat → Int32) (fd1 : Int32), w1 = mW K ma th ll (nI B) wt mh fl wl fd1 op st zs ho ba se1 lx cn pe lt le wa ta ∧ r1 = nI (tkC (rowOf se r) z (st r) w) ∧ rowOf se1 r = tkF (nI B) (rowOf se r) z (st r) w ∧ ∀ r2, r2 < 10 → r2 ≠ r → rowOf se1 r2 = rowOf se r2) 0 0 := by
  refine g_of (cc := cX3_takes) (maxL := 4) (ret := (some .int)) (Qc := fun A => va_Qi (fun r1 w1 => ∃ (se1 : Nat → Int32) (fd1 : Int32), w1 = mW K ma th ll (nI B) wt mh fl wl fd1 op st zs ho ba se1 lx cn pe lt le wa ta ∧ r1 = nI (tkC (rowOf se r) z (st r) w) ∧ rowOf se1 r = tkF (nI B) (rowOf se r) z (st r) w ∧ ∀ r2, r2 < 10 → r2 ≠ r → rowOf se1 r2 = rowOf se r2) (gB D vwCl (gT K) A) A) (by decide) rfl (Nat.le_of_ble_eq_true rfl) ?_
  intro p e s m below meth c A ls I hl
  have I0 := I
  obtain ⟨hx, hb, hr, hml, hown, hts, hlocks, hnm, hA, hK, hP, hD, hS⟩ := I
  have hown : s.vm.findClass RX3 = some m.cls := hown
  have hl : lv_has ls 4 [(0, .ref (ma 0)), (1, .int (nI r)), (2, .int (nI w))] := hl
  have hi_X3 : ∀ w ∈ u_ws RX3 TX3 21, w ∈ wsX3_takes := by decide +kernel
  refine lv_aload_n hx hb dX3_takes_0 rfl (lv_at hl 0 rfl) ?_
  refine va_get (C := RX3) (T := TX3) (N := 21) (ci := 3) hx hb hts hi_X3 hown hK hP (0) (rfl) rfl 2 (by decide) (hts (.fieldLink RX3 13 "GroupSeatsModel" "isStrict" "[Z") (by decide +kernel)) (fun _ h9 => h9) rfl dX3_takes_1 ?_
  refine lv_iload_n hx hb dX3_takes_4 rfl (lv_at hl 1 rfl) ?_
  refine va_zald hx hb hK hP (2) 1 (rfl) rfl (vp_in_nI (show r < 10 by omega) (by decide)) dX3_takes_5 ?_
  rw [nI_clamp (n := r) (by omega)]
  refine lv_if_ne (tgt := 17) hx hb dX3_takes_6 (by decide) (fun c6 => ?_) (fun c6 => ?_)
  · refine lv_aload_n hx hb dX3_takes_17 rfl (lv_at hl 0 rfl) ?_
    refine lv_iload_n hx hb dX3_takes_18 rfl (lv_at hl 1 rfl) ?_
    refine lv_iload_n hx hb dX3_takes_19 rfl (lv_at hl 2 rfl) ?_
    refine g_calli (va_runV (As := [.int _, .int _]) (rest := []) ⟨hx, hb, hml, hown, hts⟩ (m_stretch l D K ma op st zs ho ba se lx cn pe lt le wa ta th ll (nI B) wt mh fl wl fd r z w _ hr10 hz hz0 hsz hw hw0) (cwV 2 hts gX3_takes_X3_stretch rfl rfl rfl (by decide +kernel) ⟨(Nat.le_of_ble_eq_true rfl), (Nat.le_of_ble_eq_true rfl)⟩) (g_preV hK hP hD (ci := 3) (q0 := 0) rfl (rfl)) rfl rfl hl.1 rfl (lv_room (Nat.le_of_ble_eq_true rfl)) dX3_takes_20 ⟨Nat.zero_le _, Nat.zero_le _⟩) hD hS hA (fun r20 wv H locs hw1 hP hD hS => ?_)
    obtain ⟨x, fo, er0, eb, ev, hf20, ew0⟩ := hw1
    rw [ew0] at hP hD
    rw [er0]
    have hxz := eb.1
    refine lv_istore_n (lv' := [(3, .int _), (0, .ref _), (1, .int _), (2, .int _)]) hx hb dX3_takes_23 rfl hl (by decide) rfl (fun ls hl => ?_)
    refine lv_aload_n hx hb dX3_takes_24 rfl (lv_at hl 1 rfl) ?_
    refine lv_iload_n hx hb dX3_takes_25 rfl (lv_at hl 2 rfl) ?_
    refine lv_iload_n hx hb dX3_takes_26 rfl (lv_at hl 0 rfl) ?_
    refine lv_aload_n hx hb dX3_takes_27 rfl (lv_at hl 1 rfl) ?_
    refine va_get (C := RX3) (T := TX3) (N := 21) (ci := 3) hx hb hts hi_X3 hown hK hP (0) (rfl) rfl 20 (by decide) (hts (.fieldLink RX3 57 "GroupSeatsModel" "found" "I") (by decide +kernel)) (fun _ h9 => h9) rfl dX3_takes_28 ?_
    refine lv_iload_n hx hb dX3_takes_31 rfl (lv_at hl 3 rfl) ?_
    refine lv_icmp_ge (tgt := 42) hx hb dX3_takes_32 (by decide) (fun c32 => ?_) (fun c32 => ?_)
    · refine lv_iload_n hx hb dX3_takes_42 rfl (lv_at hl 3 rfl) ?_
      refine g_calli (va_runV (As := [.int _, .int _, .int _]) (rest := []) ⟨hx, hb, hml, hown, hts⟩ (m_mark l D K ma op st zs ho ba se lx cn pe lt le wa ta th ll wt mh fl wl (nI fo) B r z x w _ hr10 hz hsz (by omega) hxz) (cwV 3 hts gX3_takes_X3_mark rfl rfl rfl (by decide +kernel) ⟨(Nat.le_of_ble_eq_true rfl), (Nat.le_of_ble_eq_true rfl)⟩) (g_preV hK hP hD (ci := 3) (q0 := 0) rfl (rfl)) rfl rfl hl.1 rfl (lv_room (Nat.le_of_ble_eq_true rfl)) dX3_takes_43 ⟨Nat.zero_le _, Nat.zero_le _⟩) hD hS hA (fun r43 wv H locs hw1 hP hD hS => ?_)
      obtain ⟨se1, ew, er, e1, e2⟩ := hw1
      rw [ew] at hP hD
      rw [er]
      exact g_iret hx hb hr hlocks (Nat.le_of_ble_eq_true rfl) (Nat.le_of_ble_eq_true rfl) hK hP hD hS dX3_takes_46 (by have := (nI_leI (by omega) (by omega)).mp c32; have es : tkS (rowOf se r) z (st r) w = x := (by unfold tkS; rw [if_neg c6]; exact (isBs_eq eb).symm); have en : tkN (rowOf se r) z (st r) w = w := (by unfold tkN; rw [if_neg c6, ← isBs_eq eb, ← ev]; omega); exact ⟨se1, nI fo, rfl, by unfold tkC; rw [es, en], by rw [e1]; unfold tkF; rw [es, en], e2⟩)
    · refine lv_aload_n hx hb dX3_takes_35 rfl (lv_at hl 1 rfl) ?_
      refine va_get (C := RX3) (T := TX3) (N := 21) (ci := 3) hx hb hts hi_X3 hown hK hP (0) (rfl) rfl 20 (by decide) (hts (.fieldLink RX3 57 "GroupSeatsModel" "found" "I") (by decide +kernel)) (fun _ h9 => h9) rfl dX3_takes_36 ?_
      refine lv_goto (tgt := 43) hx hb dX3_takes_39 (by decide) ?_
      refine g_calli (va_runV (As := [.int _, .int _, .int _]) (rest := []) ⟨hx, hb, hml, hown, hts⟩ (m_mark l D K ma op st zs ho ba se lx cn pe lt le wa ta th ll wt mh fl wl (nI fo) B r z x fo _ hr10 hz hsz (by omega) hxz) (cwV 3 hts gX3_takes_X3_mark rfl rfl rfl (by decide +kernel) ⟨(Nat.le_of_ble_eq_true rfl), (Nat.le_of_ble_eq_true rfl)⟩) (g_preV hK hP hD (ci := 3) (q0 := 0) rfl (rfl)) rfl rfl hl.1 rfl (lv_room (Nat.le_of_ble_eq_true rfl)) dX3_takes_43 ⟨Nat.zero_le _, Nat.zero_le _⟩) hD hS hA (fun r43 wv H locs hw1 hP hD hS => ?_)
      obtain ⟨se1, ew, er, e1, e2⟩ := hw1
      rw [ew] at hP hD
      rw [er]
      exact g_iret hx hb hr hlocks (Nat.le_of_ble_eq_true rfl) (Nat.le_of_ble_eq_true rfl) hK hP hD hS dX3_takes_46 (by have : fo < w := Nat.lt_of_not_le (fun q => c32 (nI_le q (by omega))); have es : tkS (rowOf se r) z (st r) w = x := (by unfold tkS; rw [if_neg c6]; exact (isBs_eq eb).symm); have en : tkN (rowOf se r) z (st r) w = fo := (by unfold tkN; rw [if_neg c6, ← isBs_eq eb, ← ev]; omega); exact ⟨se1, nI fo, rfl, by unfold tkC; rw [es, en], by rw [e1]; unfold tkF; rw [es, en], e2⟩)
  · refine lv_aload_n hx hb dX3_takes_9 rfl (lv_at hl 0 rfl) ?_
    refine lv_iload_n hx hb dX3_takes_10 rfl (lv_at hl 1 rfl) ?_
    refine lv_iconst (v := 0) hx hb dX3_takes_11 (by decide) ?_
    refine lv_iload_n hx hb dX3_takes_12 rfl (lv_at hl 2 rfl) ?_
    refine g_calli (va_runV (As := [.int _, .int _, .int _]) (rest := []) ⟨hx, hb, hml, hown, hts⟩ (m_mark l D K ma op st zs ho ba se lx cn pe lt le wa ta th ll wt mh fl wl fd B r z 0 w _ hr10 hz hsz hw (by omega)) (cwV 3 hts gX3_takes_X3_mark rfl rfl rfl (by decide +kernel) ⟨(Nat.le_of_ble_eq_true rfl), (Nat.le_of_ble_eq_true rfl)⟩) (g_preV hK hP hD (ci := 3) (q0 := 0) rfl (rfl)) rfl rfl hl.1 rfl (lv_room (Nat.le_of_ble_eq_true rfl)) dX3_takes_13 ⟨Nat.zero_le _, Nat.zero_le _⟩) hD hS hA (fun r13 wv H locs hw1 hP hD hS => ?_)
    obtain ⟨se1, ew, er, e1, e2⟩ := hw1
    rw [ew] at hP hD
    rw [er]
    exact g_iret hx hb hr hlocks (Nat.le_of_ble_eq_true rfl) (Nat.le_of_ble_eq_true rfl) hK hP hD hS dX3_takes_16 (⟨se1, fd, rfl, by unfold tkC tkS tkN; rw [if_pos c6, if_pos c6], by rw [e1]; unfold tkF tkS tkN; rw [if_pos c6, if_pos c6], e2⟩)
