theorem g_dec {i : Nat} : nI i + Int32.ofInt (-1) = nI i - 1 := by rw [Int32.sub_eq_add_neg]; rfl
theorem upd_id (f : Nat → Int32) (i : Nat) : upd f i (f i) = f := by
  funext j
  by_cases h : j = i
  · subst h; simp [upd]
  · simp [upd, h]
theorem rowOf_freeV {g : Nat → Int32} {b : Int32} {r : Nat} (hr : r < 10) : rowOf (freeV g b 200) r = freeV (rowOf g r) b 20 := by
  funext j
  by_cases h : j < 20
  · simp [rowOf, freeV, h, show 20 * r + j < 200 by omega]
  · simp [rowOf, freeV, h]
/-- the model's rows are those of the hall, where they have seats -/
def MS (z : Nat → Nat) (sd : Nat → Int32) (op st zs se : Nat → Int32) (ow : Nat → Nat → Int32) : Prop := ∀ r, r < 10 → op r = (if z r = 0 then 0 else 1) ∧ (z r ≠ 0 → zs r = nI (z r) ∧ st r = sd r ∧ rowOf se r = ow r)
/-- owners that come from others by giving free seats to b -/
def GV (b : Int32) (ow oc : Nat → Nat → Int32) : Prop := ∀ r j, oc r j = ow r j ∨ (oc r j = b ∧ ow r j = -8 ∧ j < 20)
theorem GV_0 {b : Int32} {ow : Nat → Nat → Int32} : GV b ow ow := fun _ _ => Or.inl rfl
theorem GV_tk {b : Int32} (hb : b ≠ -8) {ow oc : Nat → Nat → Int32} {r z : Nat} {sd : Int32} {w : Nat} (hz : z ≤ 20) (h : GV b ow oc) : GV b ow (va_up oc r (tkF b (oc r) z sd w)) := by
  intro r2 j
  by_cases e : r2 = r
  · subst e
    rw [va_up_self]
    have hs := tkS_le (oc r2) z sd w
    rcases mkF_at b (z - tkS (oc r2) z sd w) (tkS (oc r2) z sd w) (tkN (oc r2) z sd w) (oc r2) j with q | ⟨q1, q2, q3, q4⟩
    · rw [show tkF b (oc r2) z sd w j = oc r2 j from q]
      exact h r2 j
    · rw [show tkF b (oc r2) z sd w j = b from q1]
      rcases h r2 j with a | ⟨a, _, _⟩
      · exact Or.inr ⟨rfl, by rw [← a]; exact q2, by omega⟩
      · exact absurd (a.symm.trans q2) hb
  · rw [va_up_ne _ _ e]
    exact h r2 j
theorem GV_back {b : Int32} {ow oc : Nat → Nat → Int32} (h : GV b ow oc) {r : Nat} (hn : ∀ j, j < 20 → ow r j ≠ b) : freeV (oc r) b 20 = ow r := by
  funext j
  unfold freeV
  split
  · rename_i q
    rcases h r j with a | ⟨_, a, _⟩
    · exact absurd (a.symm.trans q.2) (hn j q.1)
    · exact a.symm
  · rename_i q
    rcases h r j with a | ⟨a, _, c⟩
    · exact a
    · exact absurd ⟨c, a⟩ q
theorem MS_tk {z : Nat → Nat} {sd : Nat → Int32} {op st zs se se1 : Nat → Int32} {oc : Nat → Nat → Int32} {r : Nat} {f : Nat → Int32} (h : MS z sd op st zs se oc) (h1 : rowOf se1 r = f) (h2 : ∀ r2, r2 < 10 → r2 ≠ r → rowOf se1 r2 = rowOf se r2) : MS z sd op st zs se1 (va_up oc r f) := fun r2 hr2 => by
  refine ⟨(h r2 hr2).1, fun hz => ?_⟩
  obtain ⟨a, b, c⟩ := (h r2 hr2).2 hz
  refine ⟨a, b, ?_⟩
  by_cases e : r2 = r
  · subst e; rw [va_up_self]; exact h1
  · rw [va_up_ne _ _ e, h2 r2 hr2 e]; exact c
theorem MS_back {z : Nat → Nat} {sd : Nat → Int32} {op st zs se : Nat → Int32} {ow oc : Nat → Nat → Int32} {b : Int32} (h : MS z sd op st zs se oc) (hg : GV b ow oc) (hn : ∀ r, r < 10 → z r ≠ 0 → ∀ j, j < 20 → ow r j ≠ b) : MS z sd op st zs (freeV se b 200) ow := fun r hr => by
  refine ⟨(h r hr).1, fun hz => ?_⟩
  obtain ⟨a, b, c⟩ := (h r hr).2 hz
  exact ⟨a, b, by rw [rowOf_freeV hr, c]; exact GV_back hg (hn r hr hz)⟩
set_option maxHeartbeats 4000000 in
set_option maxRecDepth 100000 in
theorem lp_mgb2 {p : Program} {l : Launch} {e : Env} {s : State} {m : MethodId} {args : Array Value} {below : List Frame} {meth : Method} {c : Code} {A : Nat → Prop} {D : va_G} {K : gCl} {ws0 : va_W} {rm : Room} {ma : Nat → Nat} {op st zs ho ba se lx cn pe lt le wa ta : Nat → Int32} {th ll wt mh fl wl fd : Int32} {B k0 : Nat}
    (I : gIn p s m meth c A yX3_giveBack wsX3_giveBack cX3_giveBack 3 none args D vwCl (gT K) ws0)  :
    ∀ (k : Nat) (i : Nat) (H : Heap) (locs : List Loc), i + k = 200 → va_P D vwCl (mW K ma th ll (nI B) wt mh fl wl fd op st zs ho ba (freeV se (nI B) i) lx cn pe lt le wa ta) H → va_D A (mW K ma th ll (nI B) wt mh fl wl fd op st zs ho ba (freeV se (nI B) i) lx cn pe lt le wa ta) → va_S A s.heap H locs →
    ∀ (ls : Array Slot), lv_has ls 3 [(2, .int (nI i)), (0, .ref (ma 0)), (1, .int (nI k0))] →
    W p l e rm s m args below meth c H locs 0 0 (MQ below (va_Qv (fun w1 => ∃ ba1 : Nat → Int32, w1 = mW K ma th ll (nI B) wt mh fl wl fd op st zs ho ba1 (freeV se (nI B) 200) lx cn pe lt le wa ta) (gB D vwCl (gT K) A) A) args s 0 0 A) (F0 m 44 ls []) := by
  have I0 := I
  obtain ⟨hx, hb, hr, hml, hown, hts, hlocks, hnm, hA, hK, -, -, -⟩ := I
  have hown : s.vm.findClass RX3 = some m.cls := hown
  have hi_X3 : ∀ w ∈ u_ws RX3 TX3 21, w ∈ wsX3_giveBack := by decide +kernel
  intro k
  induction k with
  | zero =>
    intro i H locs hi hP hD hS ls hl
    have hi2 : i = 200 := by omega
    subst hi2
    refine lv_iload_n hx hb dX3_giveBack_44 rfl (lv_at hl 0 rfl) ?_
    refine lv_sipush (v := 200) hx hb dX3_giveBack_45 (by decide) ?_
    refine lv_icmp_ge (tgt := 87) hx hb dX3_giveBack_48 (by decide) (fun c48 => ?_) (fun c48 => ?_)
    · exact g_vret hx hb hr hlocks (Nat.le_of_ble_eq_true rfl) (Nat.le_of_ble_eq_true rfl) hK hP hD hS dX3_giveBack_87 (⟨ba, rfl⟩)
    · exact absurd (nI_le (a := 200) (by omega) (by omega)) c48
  | succ k ih =>
    intro i H locs hi hP hD hS ls hl
    refine lv_iload_n hx hb dX3_giveBack_44 rfl (lv_at hl 0 rfl) ?_
    refine lv_sipush (v := 200) hx hb dX3_giveBack_45 (by decide) ?_
    refine lv_icmp_ge (tgt := 87) hx hb dX3_giveBack_48 (by decide) (fun c48 => ?_) (fun c48 => ?_)
    · exact absurd c48 (nI_ge (b := 200) (by omega) (by decide))
    · refine lv_aload_n hx hb dX3_giveBack_51 rfl (lv_at hl 1 rfl) ?_
      refine va_get (C := RX3) (T := TX3) (N := 21) (ci := 3) hx hb hts hi_X3 hown hK hP (0) (rfl) rfl 6 (by decide) (hts (.fieldLink RX3 26 "GroupSeatsModel" "seats" "[I") (by decide +kernel)) (fun _ h9 => h9) rfl dX3_giveBack_52 ?_
      refine lv_iload_n hx hb dX3_giveBack_55 rfl (lv_at hl 0 rfl) ?_
      refine lv_aload_n hx hb dX3_giveBack_56 rfl (lv_at hl 1 rfl) ?_
      refine va_get (C := RX3) (T := TX3) (N := 21) (ci := 3) hx hb hts hi_X3 hown hK hP (0) (rfl) rfl 6 (by decide) (hts (.fieldLink RX3 26 "GroupSeatsModel" "seats" "[I") (by decide +kernel)) (fun _ h9 => h9) rfl dX3_giveBack_57 ?_
      refine lv_iload_n hx hb dX3_giveBack_60 rfl (lv_at hl 0 rfl) ?_
      refine va_iald hx hb hK hP (6) 0 (rfl) rfl (vp_in_nI (show i < 200 by omega) (by decide)) dX3_giveBack_61 ?_
      refine lv_aload_n hx hb dX3_giveBack_62 rfl (lv_at hl 1 rfl) ?_
      refine va_get (C := RX3) (T := TX3) (N := 21) (ci := 3) hx hb hts hi_X3 hown hK hP (0) (rfl) rfl 9 (by decide) (hts (.fieldLink RX3 54 "GroupSeatsModel" "bookings" "I") (by decide +kernel)) (fun _ h9 => h9) rfl dX3_giveBack_63 ?_
      refine lv_icmp_ne (tgt := 74) hx hb dX3_giveBack_66 (by decide) (fun c66 => ?_) (fun c66 => ?_)
      · refine lv_aload_n hx hb dX3_giveBack_74 rfl (lv_at hl 1 rfl) ?_
        refine va_get (C := RX3) (T := TX3) (N := 21) (ci := 3) hx hb hts hi_X3 hown hK hP (0) (rfl) rfl 6 (by decide) (hts (.fieldLink RX3 26 "GroupSeatsModel" "seats" "[I") (by decide +kernel)) (fun _ h9 => h9) rfl dX3_giveBack_75 ?_
        refine lv_iload_n hx hb dX3_giveBack_78 rfl (lv_at hl 0 rfl) ?_
        refine va_iald hx hb hK hP (6) 0 (rfl) rfl (vp_in_nI (show i < 200 by omega) (by decide)) dX3_giveBack_79 ?_
        refine va_iast hx hb hK hP hD hS (6) 0 (rfl) rfl (vp_in_nI (show i < 200 by omega) (by decide)) dX3_giveBack_80 (fun H locs hP hD hS => ?_)
        have hP : va_P D vwCl (mW K ma th ll (nI B) wt mh fl wl fd op st zs ho ba (upd (freeV se (nI B) i) (nI i).toNatClampNeg ((freeV se (nI B) i) (nI i).toNatClampNeg)) lx cn pe lt le wa ta) H := hP
        have hD : va_D A (mW K ma th ll (nI B) wt mh fl wl fd op st zs ho ba (upd (freeV se (nI B) i) (nI i).toNatClampNeg ((freeV se (nI B) i) (nI i).toNatClampNeg)) lx cn pe lt le wa ta) := hD
        refine lv_iinc (lv' := [(2, .int _), (0, .ref _), (1, .int _)]) hx hb dX3_giveBack_81 hl (k := 0) rfl rfl (by decide) rfl (fun ls hl => ?_)
        refine lv_goto (tgt := 44) hx hb dX3_giveBack_84 (by decide) ?_
        rw [nI_clamp (n := i) (by omega), freeV_at] at c66
        rw [g_inc] at hl
        rw [nI_clamp (n := i) (by omega), upd_id, freeV_no c66] at hP hD
        exact ih (i + 1) H locs (by omega) hP hD hS ls (lv_sub hl [0, 1, 2] rfl)
      · refine lv_bipush (v := -8) hx hb dX3_giveBack_69 (by decide) ?_
        refine lv_goto (tgt := 80) hx hb dX3_giveBack_71 (by decide) ?_
        refine va_iast hx hb hK hP hD hS (6) 0 (rfl) rfl (vp_in_nI (show i < 200 by omega) (by decide)) dX3_giveBack_80 (fun H locs hP hD hS => ?_)
        have hP : va_P D vwCl (mW K ma th ll (nI B) wt mh fl wl fd op st zs ho ba (upd (freeV se (nI B) i) (nI i).toNatClampNeg (-8)) lx cn pe lt le wa ta) H := hP
        have hD : va_D A (mW K ma th ll (nI B) wt mh fl wl fd op st zs ho ba (upd (freeV se (nI B) i) (nI i).toNatClampNeg (-8)) lx cn pe lt le wa ta) := hD
        refine lv_iinc (lv' := [(2, .int _), (0, .ref _), (1, .int _)]) hx hb dX3_giveBack_81 hl (k := 0) rfl rfl (by decide) rfl (fun ls hl => ?_)
        refine lv_goto (tgt := 44) hx hb dX3_giveBack_84 (by decide) ?_
        rw [nI_clamp (n := i) (by omega), freeV_at] at c66
        rw [g_inc] at hl
        rw [nI_clamp (n := i) (by omega), freeV_yes c66] at hP hD
        exact ih (i + 1) H locs (by omega) hP hD hS ls (lv_sub hl [0, 1, 2] rfl)
set_option maxHeartbeats 4000000 in
set_option maxRecDepth 100000 in
theorem lp_mgb1 {p : Program} {l : Launch} {e : Env} {s : State} {m : MethodId} {args : Array Value} {below : List Frame} {meth : Method} {c : Code} {A : Nat → Prop} {D : va_G} {K : gCl} {ws0 : va_W} {rm : Room} {ma : Nat → Nat} {op st zs ho se lx cn pe lt le wa ta : Nat → Int32} {th ll wt mh fl wl fd : Int32} {B k0 : Nat} (hk6 : k0 ≤ 6) (hway : ∀ t, t < k0 → ∃ r, r < 10 ∧ wa t = nI r)
    (I : gIn p s m meth c A yX3_giveBack wsX3_giveBack cX3_giveBack 3 none args D vwCl (gT K) ws0)  :
    ∀ (k : Nat) (ba : Nat → Int32) (H : Heap) (locs : List Loc), k ≤ k0 → va_P D vwCl (mW K ma th ll (nI B) wt mh fl wl fd op st zs ho ba se lx cn pe lt le wa ta) H → va_D A (mW K ma th ll (nI B) wt mh fl wl fd op st zs ho ba se lx cn pe lt le wa ta) → va_S A s.heap H locs →
    ∀ (ls : Array Slot), lv_has ls 3 [(2, .int (nI k - 1)), (0, .ref (ma 0)), (1, .int (nI k0))] →
    W p l e rm s m args below meth c H locs 0 0 (MQ below (va_Qv (fun w1 => ∃ ba1 : Nat → Int32, w1 = mW K ma th ll (nI B) wt mh fl wl fd op st zs ho ba1 (freeV se (nI B) 200) lx cn pe lt le wa ta) (gB D vwCl (gT K) A) A) args s 0 0 A) (F0 m 4 ls []) := by
  have I0 := I
  obtain ⟨hx, hb, hr, hml, hown, hts, hlocks, hnm, hA, hK, -, -, -⟩ := I
  have hown : s.vm.findClass RX3 = some m.cls := hown
  have hi_X3 : ∀ w ∈ u_ws RX3 TX3 21, w ∈ wsX3_giveBack := by decide +kernel
  intro k
  induction k with
  | zero =>
    intro ba H locs hi hP hD hS ls hl
    rw [show nI 0 - 1 = -1 from rfl] at hl
    refine lv_iload_n hx hb dX3_giveBack_4 rfl (lv_at hl 0 rfl) ?_
    refine lv_if_lt (tgt := 42) hx hb dX3_giveBack_5 (by decide) (fun c5 => ?_) (fun c5 => ?_)
    · refine lv_iconst (v := 0) hx hb dX3_giveBack_42 (by decide) ?_
      refine lv_istore_n (lv' := [(2, .int _), (0, .ref _), (1, .int _)]) hx hb dX3_giveBack_43 rfl hl (by decide) rfl (fun ls hl => ?_)
      exact lp_mgb2 I0 200 0 _ _ (by omega) (by rw [freeV_0]; exact hP) (by rw [freeV_0]; exact hD) hS ls (lv_sub hl [0, 1, 2] rfl)
    · exact absurd (by decide) c5
  | succ k ih =>
    intro ba H locs hi hP hD hS ls hl
    rw [nI_pred] at hl
    have hwi : vp_in (wa (nI k).toNatClampNeg) 10 := by rw [nI_clamp (by omega)]; obtain ⟨r, hr, e9⟩ := hway k (by omega); rw [e9]; exact vp_in_nI hr (by decide)
    refine lv_iload_n hx hb dX3_giveBack_4 rfl (lv_at hl 0 rfl) ?_
    refine lv_if_lt (tgt := 42) hx hb dX3_giveBack_5 (by decide) (fun c5 => ?_) (fun c5 => ?_)
    · exact absurd c5 (nI_pos (by omega))
    · refine lv_aload_n hx hb dX3_giveBack_8 rfl (lv_at hl 1 rfl) ?_
      refine va_get (C := RX3) (T := TX3) (N := 21) (ci := 3) hx hb hts hi_X3 hown hK hP (0) (rfl) rfl 5 (by decide) (hts (.fieldLink RX3 23 "GroupSeatsModel" "back" "[I") (by decide +kernel)) (fun _ h9 => h9) rfl dX3_giveBack_9 ?_
      refine lv_aload_n hx hb dX3_giveBack_12 rfl (lv_at hl 1 rfl) ?_
      refine va_get (C := RX3) (T := TX3) (N := 21) (ci := 3) hx hb hts hi_X3 hown hK hP (0) (rfl) rfl 17 (by decide) (hts (.fieldLink RX3 44 "GroupSeatsModel" "way" "[I") (by decide +kernel)) (fun _ h9 => h9) rfl dX3_giveBack_13 ?_
      refine lv_iload_n hx hb dX3_giveBack_16 rfl (lv_at hl 0 rfl) ?_
      refine va_iald hx hb hK hP (12) 0 (rfl) rfl (vp_in_nI (show k < 6 by omega) (by decide)) dX3_giveBack_17 ?_
      refine lv_dup2_11 hx hb dX3_giveBack_18 rfl rfl ?_
      refine va_iald hx hb hK hP (5) 0 (rfl) rfl (hwi) dX3_giveBack_19 ?_
      refine lv_aload_n hx hb dX3_giveBack_20 rfl (lv_at hl 1 rfl) ?_
      refine va_get (C := RX3) (T := TX3) (N := 21) (ci := 3) hx hb hts hi_X3 hown hK hP (0) (rfl) rfl 19 (by decide) (hts (.fieldLink RX3 47 "GroupSeatsModel" "taken" "[I") (by decide +kernel)) (fun _ h9 => h9) rfl dX3_giveBack_21 ?_
      refine lv_iload_n hx hb dX3_giveBack_24 rfl (lv_at hl 0 rfl) ?_
      refine va_iald hx hb hK hP (13) 0 (rfl) rfl (vp_in_nI (show k < 6 by omega) (by decide)) dX3_giveBack_25 ?_
      refine lv_if_le (tgt := 33) hx hb dX3_giveBack_26 (by decide) (fun c26 => ?_) (fun c26 => ?_)
      · refine lv_iconst (v := 0) hx hb dX3_giveBack_33 (by decide) ?_
        refine lv_iadd hx hb dX3_giveBack_34 ?_
        refine va_iast hx hb hK hP hD hS (5) 0 (rfl) rfl (hwi) dX3_giveBack_35 (fun H locs hP hD hS => ?_)
        have hP : va_P D vwCl (mW K ma th ll (nI B) wt mh fl wl fd op st zs ho (upd ba (wa (nI k).toNatClampNeg).toNatClampNeg (ba (wa (nI k).toNatClampNeg).toNatClampNeg + 0)) se lx cn pe lt le wa ta) H := hP
        have hD : va_D A (mW K ma th ll (nI B) wt mh fl wl fd op st zs ho (upd ba (wa (nI k).toNatClampNeg).toNatClampNeg (ba (wa (nI k).toNatClampNeg).toNatClampNeg + 0)) se lx cn pe lt le wa ta) := hD
        refine lv_iinc (lv' := [(2, .int _), (0, .ref _), (1, .int _)]) hx hb dX3_giveBack_36 hl (k := 0) rfl rfl (by decide) rfl (fun ls hl => ?_)
        refine lv_goto (tgt := 4) hx hb dX3_giveBack_39 (by decide) ?_
        rw [g_dec] at hl
        exact ih _ H locs (by omega) hP hD hS ls (lv_sub hl [0, 1, 2] rfl)
      · refine lv_iconst (v := 1) hx hb dX3_giveBack_29 (by decide) ?_
        refine lv_goto (tgt := 34) hx hb dX3_giveBack_30 (by decide) ?_
        refine lv_iadd hx hb dX3_giveBack_34 ?_
        refine va_iast hx hb hK hP hD hS (5) 0 (rfl) rfl (hwi) dX3_giveBack_35 (fun H locs hP hD hS => ?_)
        have hP : va_P D vwCl (mW K ma th ll (nI B) wt mh fl wl fd op st zs ho (upd ba (wa (nI k).toNatClampNeg).toNatClampNeg (ba (wa (nI k).toNatClampNeg).toNatClampNeg + 1)) se lx cn pe lt le wa ta) H := hP
        have hD : va_D A (mW K ma th ll (nI B) wt mh fl wl fd op st zs ho (upd ba (wa (nI k).toNatClampNeg).toNatClampNeg (ba (wa (nI k).toNatClampNeg).toNatClampNeg + 1)) se lx cn pe lt le wa ta) := hD
        refine lv_iinc (lv' := [(2, .int _), (0, .ref _), (1, .int _)]) hx hb dX3_giveBack_36 hl (k := 0) rfl rfl (by decide) rfl (fun ls hl => ?_)
        refine lv_goto (tgt := 4) hx hb dX3_giveBack_39 (by decide) ?_
        rw [g_dec] at hl
        exact ih _ H locs (by omega) hP hD hS ls (lv_sub hl [0, 1, 2] rfl)
set_option maxHeartbeats 4000000 in
set_option maxRecDepth 100000 in
/-- the model: giveBack -/
theorem m_giveBack (l : Launch) (D : va_G) (K : gCl) (ma : Nat → Nat) (op st zs ho ba se lx cn pe lt le wa ta : Nat → Int32) (th ll wt mh fl wl fd : Int32) (B k0 : Nat) (sz : Nat) (hk6 : k0 ≤ 6) (hway : ∀ t, t < k0 → ∃ r, r < 10 ∧ wa t = nI r) : gMv l yX3_giveBack wsX3_giveBack ({ frames := 0, cells := 0, slots := 0, locals := 0 } : Room) D vwCl (gT K) [.ref (ma 0), .int (nI k0)] (mW K ma th ll (nI B) wt mh fl wl fd op st zs ho ba se lx cn pe lt le wa ta) sz (fun w1 => ∃ ba1 : Nat → Int32, w1 = mW K ma th ll (nI B) wt mh fl wl fd op st zs ho ba1 (freeV se (nI B) 200) lx cn pe lt le wa ta) 0 0 := by
  refine g_of (cc := cX3_giveBack) (maxL := 3) (ret := none) (Qc := fun A => va_Qv (fun w1 => ∃ ba1 : Nat → Int32, w1 = mW K ma th ll (nI B) wt mh fl wl fd op st zs ho ba1 (freeV se (nI B) 200) lx cn pe lt le wa ta) (gB D vwCl (gT K) A) A) (by decide) rfl (Nat.le_of_ble_eq_true rfl) ?_
  intro p e s m below meth c A ls I hl
  have I0 := I
  obtain ⟨hx, hb, hr, hml, hown, hts, hlocks, hnm, hA, hK, hP, hD, hS⟩ := I
  have hown : s.vm.findClass RX3 = some m.cls := hown
  have hl : lv_has ls 3 [(0, .ref (ma 0)), (1, .int (nI k0))] := hl
  have hi_X3 : ∀ w ∈ u_ws RX3 TX3 21, w ∈ wsX3_giveBack := by decide +kernel
  refine lv_iload_n hx hb dX3_giveBack_0 rfl (lv_at hl 1 rfl) ?_
  refine lv_iconst (v := 1) hx hb dX3_giveBack_1 (by decide) ?_
  refine lv_isub hx hb dX3_giveBack_2 ?_
  refine lv_istore_n (lv' := [(2, .int _), (0, .ref _), (1, .int _)]) hx hb dX3_giveBack_3 rfl hl (by decide) rfl (fun ls hl => ?_)
  exact lp_mgb1 hk6 hway I0 k0 ba _ _ (by omega) hP hD hS ls (lv_sub hl [0, 1, 2] rfl)
def mTo (K : gCl) (ma : Nat → Nat) (z : Nat → Nat) (sd : Nat → Int32) (th ll wt : Int32) (B : Nat) (fl wl : Int32) (op st zs lx cn pe lt le wa : Nat → Int32) (ow : Nat → Nat → Int32) (G : Int32 × (Nat → Nat → Int32) × Nat) : Int32 → va_W → Prop := fun r1 w1 =>
  (G.1 = 0 → r1 = nI B ∧ ∃ (ho1 ba1 se1 ta1 : Nat → Int32) (fd1 : Int32), w1 = mW K ma th ll (nI (B + 1)) wt (nI G.2.2) fl wl fd1 op st zs ho1 ba1 se1 lx cn pe lt le wa ta1 ∧ MS z sd op st zs se1 G.2.1) ∧ (G.1 ≠ 0 → r1 = G.1 ∧ ∃ (ho1 ba1 se1 ta1 : Nat → Int32) (fd1 : Int32), w1 = mW K ma th ll (nI B) wt (nI G.2.2) (fl + 1) wl fd1 op st zs ho1 ba1 se1 lx cn pe lt le wa ta1 ∧ MS z sd op st zs se1 ow)
set_option maxHeartbeats 4000000 in
set_option maxRecDepth 100000 in
theorem m_fin {p : Program} {l : Launch} {e : Env} {s : State} {m : MethodId} {args : Array Value} {below : List Frame} {meth : Method} {c : Code} {A : Nat → Prop} {D : va_G} {K : gCl} {ws0 : va_W} {ma : Nat → Nat} {op st zs lx cn pe lt le wa : Nat → Int32} {th ll wt fl : Int32} {z : Nat → Nat} {sd : Nat → Int32} {ow : Nat → Nat → Int32} {B n : Nat} {mo : Int32} {L : List Nat} {GF : Int32 × (Nat → Nat → Int32) × Nat} {oc : Nat → Nat → Int32} {w k0 mh : Nat} {fc fd : Int32} {ho ba ta g : Nat → Int32} (hz : ∀ r, r < 10 → z r ≤ 20) (hL : isL wa L) (hB : B < 100) (hn60 : n ≤ 60) (hNB : ∀ r, r < 10 → z r ≠ 0 → ∀ j, j < 20 → ow r j ≠ nI B) (hfc : fc ≠ 0) (hk6 : k0 ≤ 6) (hw60 : w ≤ 60) (hway : ∀ t, t < k0 → ∃ r, r < 10 ∧ wa t = nI r) (hMS : MS z sd op st zs g oc) (hGV : GV (nI B) ow oc) (hGF : (if w = 0 then 0 else if mo = 1 ∧ w < n then 0 else fc, oc, mh) = GF)
    (I : gIn p s m meth c A yX3_goes wsX3_goes cX3_goes 8 (some .int) args D vwCl (gT K) ws0) {H : Heap} {locs : List Loc} (hP : va_P D vwCl (mW K ma th ll (nI B) wt (nI mh) fl (nI L.length) fd op st zs ho ba g lx cn pe lt le wa ta) H) (hD : va_D A (mW K ma th ll (nI B) wt (nI mh) fl (nI L.length) fd op st zs ho ba g lx cn pe lt le wa ta)) (hS : va_S A s.heap H locs) {ls : Array Slot} (hl : lv_has ls 8 [(3, .int (nI w)), (4, .int fc), (5, .int (nI k0)), (0, .ref (ma 0)), (1, .int (nI n)), (2, .int mo)]) :
    W p l e ({ frames := 3, cells := 0, slots := 0, locals := 120 } : Room) s m args below meth c H locs 0 0 (MQ below (va_Qi (mTo K ma z sd th ll wt B fl (nI L.length) op st zs lx cn pe lt le wa ow GF) (gB D vwCl (gT K) A) A) args s 0 0 A) (F0 m 139 ls []) := by
  obtain ⟨hx, hb, hr, hml, hown, hts, hlocks, hnm, hA, hK, -, -, -⟩ := I
  have hown : s.vm.findClass RX3 = some m.cls := hown
  have hi_X3 : ∀ w ∈ u_ws RX3 TX3 21, w ∈ wsX3_goes := by decide +kernel
  refine lv_iload_n hx hb dX3_goes_139 rfl (lv_at hl 0 rfl) ?_
  refine lv_if_eq (tgt := 153) hx hb dX3_goes_140 (by decide) (fun c140 => ?_) (fun c140 => ?_)
  · refine lv_aload_n hx hb dX3_goes_153 rfl (lv_at hl 3 rfl) ?_
    refine lv_dup hx hb dX3_goes_154 rfl ?_
    refine va_get (C := RX3) (T := TX3) (N := 21) (ci := 3) hx hb hts hi_X3 hown hK hP (0) (rfl) rfl 9 (by decide) (hts (.fieldLink RX3 54 "GroupSeatsModel" "bookings" "I") (by decide +kernel)) (fun _ h9 => h9) rfl dX3_goes_155 ?_
    refine lv_iconst (v := 1) hx hb dX3_goes_158 (by decide) ?_
    refine lv_iadd hx hb dX3_goes_159 ?_
    refine va_put (C := RX3) (T := TX3) (N := 21) (ci := 3) (ty := .int) hx hb hts hi_X3 tyX3 tyX3_ok nmX3 hown hK hP hD hS (0) (rfl) rfl 9 (by decide) (hts (.fieldLink RX3 54 "GroupSeatsModel" "bookings" "I") (by decide +kernel)) (fun _ h9 => h9) rfl (by decide +kernel) rfl rfl (Nat.le_of_ble_eq_true rfl) dX3_goes_160 (fun H locs hP hD hS => ?_)
    have hP : va_P D vwCl (mW K ma th ll (nI B + 1) wt (nI mh) fl (nI L.length) fd op st zs ho ba g lx cn pe lt le wa ta) H := hP
    have hD : va_D A (mW K ma th ll (nI B + 1) wt (nI mh) fl (nI L.length) fd op st zs ho ba g lx cn pe lt le wa ta) := hD
    rw [nI_1 B] at hP hD
    refine lv_aload_n hx hb dX3_goes_163 rfl (lv_at hl 3 rfl) ?_
    refine va_get (C := RX3) (T := TX3) (N := 21) (ci := 3) hx hb hts hi_X3 hown hK hP (0) (rfl) rfl 9 (by decide) (hts (.fieldLink RX3 54 "GroupSeatsModel" "bookings" "I") (by decide +kernel)) (fun _ h9 => h9) rfl dX3_goes_164 ?_
    refine lv_iconst (v := 1) hx hb dX3_goes_167 (by decide) ?_
    refine lv_isub hx hb dX3_goes_168 ?_
    exact g_iret hx hb hr hlocks (Nat.le_of_ble_eq_true rfl) (Nat.le_of_ble_eq_true rfl) hK hP hD hS dX3_goes_169 (by have hw0 : w = 0 := (nI_eq (by omega) (by decide)).mp c140; rw [if_pos hw0] at hGF; subst hGF; exact ⟨fun _ => ⟨nI_pred B, ho, ba, g, ta, fd, rfl, hMS⟩, fun q => absurd rfl q⟩)
  · refine lv_iload_n hx hb dX3_goes_143 rfl (lv_at hl 5 rfl) ?_
    refine lv_iconst (v := 1) hx hb dX3_goes_144 (by decide) ?_
    refine lv_icmp_ne (tgt := 170) hx hb dX3_goes_145 (by decide) (fun c145 => ?_) (fun c145 => ?_)
    · refine lv_aload_n hx hb dX3_goes_170 rfl (lv_at hl 3 rfl) ?_
      refine lv_iload hx hb dX3_goes_171 (lv_at hl 2 rfl) ?_
      refine g_callv (va_runV (As := [.int _]) (rest := []) ⟨hx, hb, hml, hown, hts⟩ (m_giveBack l D K ma op st zs ho ba g lx cn pe lt le wa ta th ll wt (nI mh) fl (nI L.length) fd B k0 _ hk6 hway) (cwV 1 hts gX3_goes_X3_giveBack rfl rfl rfl (by decide +kernel) ⟨(Nat.le_of_ble_eq_true rfl), (Nat.le_of_ble_eq_true rfl)⟩) (g_preV hK hP hD (ci := 3) (q0 := 0) rfl (rfl)) rfl rfl hl.1 rfl (lv_room (Nat.le_of_ble_eq_true rfl)) dX3_goes_173 ⟨Nat.zero_le _, Nat.zero_le _⟩) hD hS hA (fun wv H locs hw hP hD hS => ?_)
      obtain ⟨ba1, ew⟩ := hw
      rw [ew] at hP hD
      refine lv_aload_n hx hb dX3_goes_176 rfl (lv_at hl 3 rfl) ?_
      refine lv_dup hx hb dX3_goes_177 rfl ?_
      refine va_get (C := RX3) (T := TX3) (N := 21) (ci := 3) hx hb hts hi_X3 hown hK hP (0) (rfl) rfl 16 (by decide) (hts (.fieldLink RX3 81 "GroupSeatsModel" "failures" "I") (by decide +kernel)) (fun _ h9 => h9) rfl dX3_goes_178 ?_
      refine lv_iconst (v := 1) hx hb dX3_goes_181 (by decide) ?_
      refine lv_iadd hx hb dX3_goes_182 ?_
      refine va_put (C := RX3) (T := TX3) (N := 21) (ci := 3) (ty := .int) hx hb hts hi_X3 tyX3 tyX3_ok nmX3 hown hK hP hD hS (0) (rfl) rfl 16 (by decide) (hts (.fieldLink RX3 81 "GroupSeatsModel" "failures" "I") (by decide +kernel)) (fun _ h9 => h9) rfl (by decide +kernel) rfl rfl (Nat.le_of_ble_eq_true rfl) dX3_goes_183 (fun H locs hP hD hS => ?_)
      have hP : va_P D vwCl (mW K ma th ll (nI B) wt (nI mh) (fl + 1) (nI L.length) fd op st zs ho ba1 (freeV g (nI B) 200) lx cn pe lt le wa ta) H := hP
      have hD : va_D A (mW K ma th ll (nI B) wt (nI mh) (fl + 1) (nI L.length) fd op st zs ho ba1 (freeV g (nI B) 200) lx cn pe lt le wa ta) := hD
      refine lv_iload hx hb dX3_goes_186 (lv_at hl 1 rfl) ?_
      exact g_iret hx hb hr hlocks (Nat.le_of_ble_eq_true rfl) (Nat.le_of_ble_eq_true rfl) hK hP hD hS dX3_goes_188 (by have hw0 : w ≠ 0 := (fun q => c140 (by rw [q]; rfl)); rw [if_neg hw0, if_neg (fun h => c145 h.1)] at hGF; subst hGF; exact ⟨fun q => absurd q hfc, fun _ => ⟨rfl, ho, ba1, _, ta, fd, rfl, MS_back hMS hGV hNB⟩⟩)
    · refine lv_iload_n hx hb dX3_goes_148 rfl (lv_at hl 0 rfl) ?_
      refine lv_iload_n hx hb dX3_goes_149 rfl (lv_at hl 4 rfl) ?_
      refine lv_icmp_ge (tgt := 170) hx hb dX3_goes_150 (by decide) (fun c150 => ?_) (fun c150 => ?_)
      · refine lv_aload_n hx hb dX3_goes_170 rfl (lv_at hl 3 rfl) ?_
        refine lv_iload hx hb dX3_goes_171 (lv_at hl 2 rfl) ?_
        refine g_callv (va_runV (As := [.int _]) (rest := []) ⟨hx, hb, hml, hown, hts⟩ (m_giveBack l D K ma op st zs ho ba g lx cn pe lt le wa ta th ll wt (nI mh) fl (nI L.length) fd B k0 _ hk6 hway) (cwV 1 hts gX3_goes_X3_giveBack rfl rfl rfl (by decide +kernel) ⟨(Nat.le_of_ble_eq_true rfl), (Nat.le_of_ble_eq_true rfl)⟩) (g_preV hK hP hD (ci := 3) (q0 := 0) rfl (rfl)) rfl rfl hl.1 rfl (lv_room (Nat.le_of_ble_eq_true rfl)) dX3_goes_173 ⟨Nat.zero_le _, Nat.zero_le _⟩) hD hS hA (fun wv H locs hw hP hD hS => ?_)
        obtain ⟨ba1, ew⟩ := hw
        rw [ew] at hP hD
        refine lv_aload_n hx hb dX3_goes_176 rfl (lv_at hl 3 rfl) ?_
        refine lv_dup hx hb dX3_goes_177 rfl ?_
        refine va_get (C := RX3) (T := TX3) (N := 21) (ci := 3) hx hb hts hi_X3 hown hK hP (0) (rfl) rfl 16 (by decide) (hts (.fieldLink RX3 81 "GroupSeatsModel" "failures" "I") (by decide +kernel)) (fun _ h9 => h9) rfl dX3_goes_178 ?_
        refine lv_iconst (v := 1) hx hb dX3_goes_181 (by decide) ?_
        refine lv_iadd hx hb dX3_goes_182 ?_
        refine va_put (C := RX3) (T := TX3) (N := 21) (ci := 3) (ty := .int) hx hb hts hi_X3 tyX3 tyX3_ok nmX3 hown hK hP hD hS (0) (rfl) rfl 16 (by decide) (hts (.fieldLink RX3 81 "GroupSeatsModel" "failures" "I") (by decide +kernel)) (fun _ h9 => h9) rfl (by decide +kernel) rfl rfl (Nat.le_of_ble_eq_true rfl) dX3_goes_183 (fun H locs hP hD hS => ?_)
        have hP : va_P D vwCl (mW K ma th ll (nI B) wt (nI mh) (fl + 1) (nI L.length) fd op st zs ho ba1 (freeV g (nI B) 200) lx cn pe lt le wa ta) H := hP
        have hD : va_D A (mW K ma th ll (nI B) wt (nI mh) (fl + 1) (nI L.length) fd op st zs ho ba1 (freeV g (nI B) 200) lx cn pe lt le wa ta) := hD
        refine lv_iload hx hb dX3_goes_186 (lv_at hl 1 rfl) ?_
        exact g_iret hx hb hr hlocks (Nat.le_of_ble_eq_true rfl) (Nat.le_of_ble_eq_true rfl) hK hP hD hS dX3_goes_188 (by have hw0 : w ≠ 0 := (fun q => c140 (by rw [q]; rfl)); rw [if_neg hw0, if_neg (fun h => by have := (nI_leI (by omega) (by omega)).mp c150; omega)] at hGF; subst hGF; exact ⟨fun q => absurd q hfc, fun _ => ⟨rfl, ho, ba1, _, ta, fd, rfl, MS_back hMS hGV hNB⟩⟩)
      · refine lv_aload_n hx hb dX3_goes_153 rfl (lv_at hl 3 rfl) ?_
        refine lv_dup hx hb dX3_goes_154 rfl ?_
        refine va_get (C := RX3) (T := TX3) (N := 21) (ci := 3) hx hb hts hi_X3 hown hK hP (0) (rfl) rfl 9 (by decide) (hts (.fieldLink RX3 54 "GroupSeatsModel" "bookings" "I") (by decide +kernel)) (fun _ h9 => h9) rfl dX3_goes_155 ?_
        refine lv_iconst (v := 1) hx hb dX3_goes_158 (by decide) ?_
        refine lv_iadd hx hb dX3_goes_159 ?_
        refine va_put (C := RX3) (T := TX3) (N := 21) (ci := 3) (ty := .int) hx hb hts hi_X3 tyX3 tyX3_ok nmX3 hown hK hP hD hS (0) (rfl) rfl 9 (by decide) (hts (.fieldLink RX3 54 "GroupSeatsModel" "bookings" "I") (by decide +kernel)) (fun _ h9 => h9) rfl (by decide +kernel) rfl rfl (Nat.le_of_ble_eq_true rfl) dX3_goes_160 (fun H locs hP hD hS => ?_)
        have hP : va_P D vwCl (mW K ma th ll (nI B + 1) wt (nI mh) fl (nI L.length) fd op st zs ho ba g lx cn pe lt le wa ta) H := hP
        have hD : va_D A (mW K ma th ll (nI B + 1) wt (nI mh) fl (nI L.length) fd op st zs ho ba g lx cn pe lt le wa ta) := hD
        rw [nI_1 B] at hP hD
        refine lv_aload_n hx hb dX3_goes_163 rfl (lv_at hl 3 rfl) ?_
        refine va_get (C := RX3) (T := TX3) (N := 21) (ci := 3) hx hb hts hi_X3 hown hK hP (0) (rfl) rfl 9 (by decide) (hts (.fieldLink RX3 54 "GroupSeatsModel" "bookings" "I") (by decide +kernel)) (fun _ h9 => h9) rfl dX3_goes_164 ?_
        refine lv_iconst (v := 1) hx hb dX3_goes_167 (by decide) ?_
        refine lv_isub hx hb dX3_goes_168 ?_
        exact g_iret hx hb hr hlocks (Nat.le_of_ble_eq_true rfl) (Nat.le_of_ble_eq_true rfl) hK hP hD hS dX3_goes_169 (by have hw0 : w ≠ 0 := (fun q => c140 (by rw [q]; rfl)); rw [if_neg hw0, if_pos ⟨c145, Nat.lt_of_not_le (fun q => c150 (nI_le q (by omega)))⟩] at hGF; subst hGF; exact ⟨fun _ => ⟨nI_pred B, ho, ba, g, ta, fd, rfl, hMS⟩, fun q => absurd rfl q⟩)
set_option maxHeartbeats 4000000 in
set_option maxRecDepth 100000 in
theorem lp_goes {p : Program} {l : Launch} {e : Env} {s : State} {m : MethodId} {args : Array Value} {below : List Frame} {meth : Method} {c : Code} {A : Nat → Prop} {D : va_G} {K : gCl} {ws0 : va_W} {ma : Nat → Nat} {op st zs lx cn pe lt le wa : Nat → Int32} {th ll wt fl : Int32} {z : Nat → Nat} {sd : Nat → Int32} {ow : Nat → Nat → Int32} {B n : Nat} {mo : Int32} {L : List Nat} {GF : Int32 × (Nat → Nat → Int32) × Nat} (hz : ∀ r, r < 10 → z r ≤ 20) (hL : isL wa L) (hB : B < 100) (hn60 : n ≤ 60) (hNB : ∀ r, r < 10 → z r ≠ 0 → ∀ j, j < 20 → ow r j ≠ nI B)
    (I : gIn p s m meth c A yX3_goes wsX3_goes cX3_goes 8 (some .int) args D vwCl (gT K) ws0)  :
    ∀ (rs : List Nat) (p0 w mh : Nat) (ho ba ta g : Nat → Int32) (fd : Int32) (oc : Nat → Nat → Int32) (H : Heap) (locs : List Loc), L.drop p0 = rs → p0 ≤ 6 → w ≤ 60 → mh ≤ 100 → (∀ t, t < p0 → ∃ r, r < 10 ∧ wa t = nI r) → MS z sd op st zs g oc → GV (nI B) ow oc → goA z sd (nI B) n mo rs w p0 oc mh = GF → va_P D vwCl (mW K ma th ll (nI B) wt (nI mh) fl (nI L.length) fd op st zs ho ba g lx cn pe lt le wa ta) H → va_D A (mW K ma th ll (nI B) wt (nI mh) fl (nI L.length) fd op st zs ho ba g lx cn pe lt le wa ta) → va_S A s.heap H locs →
    ∀ (ls : Array Slot), lv_has ls 8 [(6, .int 1), (5, .int (nI p0)), (4, .int (-4)), (3, .int (nI w)), (0, .ref (ma 0)), (1, .int (nI n)), (2, .int mo)] →
    W p l e ({ frames := 3, cells := 0, slots := 0, locals := 120 } : Room) s m args below meth c H locs 0 0 (MQ below (va_Qi (mTo K ma z sd th ll wt B fl (nI L.length) op st zs lx cn pe lt le wa ow GF) (gB D vwCl (gT K) A) A) args s 0 0 A) (F0 m 12 ls []) := by
  have I0 := I
  obtain ⟨hx, hb, hr, hml, hown, hts, hlocks, hnm, hA, hK, -, -, -⟩ := I
  have hown : s.vm.findClass RX3 = some m.cls := hown
  have hi_X3 : ∀ w ∈ u_ws RX3 TX3 21, w ∈ wsX3_goes := by decide +kernel
  have hL6 := hL.1
  have hb8 : nI B ≠ -8 := fun h => by
    have h2 := congrArg Int32.toInt h
    rw [nI_toInt (by omega)] at h2
    exact absurd h2 (by rw [show (-8 : Int32).toInt = -8 from rfl]; omega)
  intro rs
  induction rs with
  | nil =>
    intro p0 w mh ho ba ta g fd oc H locs hrs hp6 hw60 hmh hway hMS hGV hGF hP hD hS ls hl
    refine lv_iload hx hb dX3_goes_12 (lv_at hl 0 rfl) ?_
    refine lv_if_eq (tgt := 139) hx hb dX3_goes_14 (by decide) (fun c14 => ?_) (fun c14 => ?_)
    · exact absurd c14 (by decide)
    · refine lv_iload hx hb dX3_goes_17 (lv_at hl 1 rfl) ?_
      refine lv_aload_n hx hb dX3_goes_19 rfl (lv_at hl 4 rfl) ?_
      refine va_get (C := RX3) (T := TX3) (N := 21) (ci := 3) hx hb hts hi_X3 hown hK hP (0) (rfl) rfl 18 (by decide) (hts (.fieldLink RX3 68 "GroupSeatsModel" "wayLong" "I") (by decide +kernel)) (fun _ h9 => h9) rfl dX3_goes_20 ?_
      refine lv_icmp_ge (tgt := 139) hx hb dX3_goes_23 (by decide) (fun c23 => ?_) (fun c23 => ?_)
      · exact m_fin hz hL hB hn60 hNB (fc := -4) (by decide) (by omega) (by omega) hway hMS hGV (by rw [← hGF]; rfl) I0 hP hD hS (lv_sub hl [3, 2, 1, 4, 5, 6] rfl)
      · exact absurd (nI_le (isL_end hrs) (by omega)) c23
  | cons r rs ih =>
    intro p0 w mh ho ba ta g fd oc H locs hrs hp6 hw60 hmh hway hMS hGV hGF hP hD hS ls hl
    obtain ⟨hp1, hp2, hp3, hp4⟩ := isL_drop hL hrs
    refine lv_iload hx hb dX3_goes_12 (lv_at hl 0 rfl) ?_
    refine lv_if_eq (tgt := 139) hx hb dX3_goes_14 (by decide) (fun c14 => ?_) (fun c14 => ?_)
    · exact absurd c14 (by decide)
    · refine lv_iload hx hb dX3_goes_17 (lv_at hl 1 rfl) ?_
      refine lv_aload_n hx hb dX3_goes_19 rfl (lv_at hl 4 rfl) ?_
      refine va_get (C := RX3) (T := TX3) (N := 21) (ci := 3) hx hb hts hi_X3 hown hK hP (0) (rfl) rfl 18 (by decide) (hts (.fieldLink RX3 68 "GroupSeatsModel" "wayLong" "I") (by decide +kernel)) (fun _ h9 => h9) rfl dX3_goes_20 ?_
      refine lv_icmp_ge (tgt := 139) hx hb dX3_goes_23 (by decide) (fun c23 => ?_) (fun c23 => ?_)
      · exact absurd c23 (nI_ge hp1 (by omega))
      · refine lv_iload_n hx hb dX3_goes_26 rfl (lv_at hl 3 rfl) ?_
        refine lv_if_le (tgt := 139) hx hb dX3_goes_27 (by decide) (fun c27 => ?_) (fun c27 => ?_)
        · have hw0 : w = 0 := Classical.not_not.mp (fun q => absurd c27 (by rw [show (0 : Int32) = nI 0 from rfl]; exact nI_ge (by omega) (by omega)))
          exact m_fin hz hL hB hn60 hNB (fc := -4) (by decide) (by omega) (by omega) hway hMS hGV (by rw [← hGF, hw0, goA_done]; rfl) I0 hP hD hS (lv_sub hl [3, 2, 1, 4, 5, 6] rfl)
        · have hw0 : w ≠ 0 := fun q => c27 (by rw [q]; decide)
          refine lv_aload_n hx hb dX3_goes_30 rfl (lv_at hl 4 rfl) ?_
          refine va_get (C := RX3) (T := TX3) (N := 21) (ci := 3) hx hb hts hi_X3 hown hK hP (0) (rfl) rfl 17 (by decide) (hts (.fieldLink RX3 44 "GroupSeatsModel" "way" "[I") (by decide +kernel)) (fun _ h9 => h9) rfl dX3_goes_31 ?_
          refine lv_iload hx hb dX3_goes_34 (lv_at hl 1 rfl) ?_
          refine va_iald hx hb hK hP (12) 0 (rfl) rfl (vp_in_nI (show p0 < 6 by omega) (by decide)) dX3_goes_36 ?_
          rw [nI_clamp (n := p0) (by omega), hp2]
          refine lv_istore (lv' := [(7, .int _), (6, .int _), (5, .int _), (4, .int _), (3, .int _), (0, .ref _), (1, .int _), (2, .int _)]) hx hb dX3_goes_37 hl (by decide) rfl (fun ls hl => ?_)
          refine lv_iload hx hb dX3_goes_39 (lv_at hl 0 rfl) ?_
          refine lv_bipush (v := 10) hx hb dX3_goes_41 (by decide) ?_
          refine lv_icmp_lt (tgt := 56) hx hb dX3_goes_43 (by decide) (fun c43 => ?_) (fun c43 => ?_)
          · have hr10 : r < 10 := (nI_ltI (b := 10) (by omega) (by decide)).mp c43
            refine lv_aload_n hx hb dX3_goes_56 rfl (lv_at hl 5 rfl) ?_
            refine va_get (C := RX3) (T := TX3) (N := 21) (ci := 3) hx hb hts hi_X3 hown hK hP (0) (rfl) rfl 1 (by decide) (hts (.fieldLink RX3 7 "GroupSeatsModel" "isOpen" "[Z") (by decide +kernel)) (fun _ h9 => h9) rfl dX3_goes_57 ?_
            refine lv_iload hx hb dX3_goes_60 (lv_at hl 0 rfl) ?_
            refine va_zald hx hb hK hP (1) 1 (rfl) rfl (vp_in_nI (show r < 10 by omega) (by decide)) dX3_goes_62 ?_
            refine lv_if_ne (tgt := 76) hx hb dX3_goes_63 (by decide) (fun c63 => ?_) (fun c63 => ?_)
            · have hzr : z r ≠ 0 := fun q => c63 (by rw [nI_clamp (n := r) (by omega), (hMS r hr10).1, if_pos q])
              have hob : obsL z (r :: rs) = 0 := by rw [obsL_cons, if_pos hr10, if_neg hzr]
              have hzs := (hMS r hr10).2 hzr
              refine lv_aload_n hx hb dX3_goes_76 rfl (lv_at hl 5 rfl) ?_
              refine va_get (C := RX3) (T := TX3) (N := 21) (ci := 3) hx hb hts hi_X3 hown hK hP (0) (rfl) rfl 4 (by decide) (hts (.fieldLink RX3 20 "GroupSeatsModel" "holds" "[I") (by decide +kernel)) (fun _ h9 => h9) rfl dX3_goes_77 ?_
              refine lv_iload hx hb dX3_goes_80 (lv_at hl 0 rfl) ?_
              refine lv_dup2_11 hx hb dX3_goes_82 rfl rfl ?_
              refine va_iald hx hb hK hP (4) 0 (rfl) rfl (vp_in_nI (show r < 10 by omega) (by decide)) dX3_goes_83 ?_
              refine lv_iconst (v := 1) hx hb dX3_goes_84 (by decide) ?_
              refine lv_iadd hx hb dX3_goes_85 ?_
              refine va_iast hx hb hK hP hD hS (4) 0 (rfl) rfl (vp_in_nI (show r < 10 by omega) (by decide)) dX3_goes_86 (fun H locs hP hD hS => ?_)
              have hP : va_P D vwCl (mW K ma th ll (nI B) wt (nI mh) fl (nI L.length) fd op st zs (upd ho (nI r).toNatClampNeg (ho (nI r).toNatClampNeg + 1)) ba g lx cn pe lt le wa ta) H := hP
              have hD : va_D A (mW K ma th ll (nI B) wt (nI mh) fl (nI L.length) fd op st zs (upd ho (nI r).toNatClampNeg (ho (nI r).toNatClampNeg + 1)) ba g lx cn pe lt le wa ta) := hD
              refine lv_aload_n hx hb dX3_goes_87 rfl (lv_at hl 5 rfl) ?_
              refine va_get (C := RX3) (T := TX3) (N := 21) (ci := 3) hx hb hts hi_X3 hown hK hP (0) (rfl) rfl 19 (by decide) (hts (.fieldLink RX3 47 "GroupSeatsModel" "taken" "[I") (by decide +kernel)) (fun _ h9 => h9) rfl dX3_goes_88 ?_
              refine lv_iload hx hb dX3_goes_91 (lv_at hl 2 rfl) ?_
              refine lv_aload_n hx hb dX3_goes_93 rfl (lv_at hl 5 rfl) ?_
              refine lv_iload hx hb dX3_goes_94 (lv_at hl 0 rfl) ?_
              refine lv_iload_n hx hb dX3_goes_96 rfl (lv_at hl 4 rfl) ?_
              refine g_calli (va_runV (As := [.int _, .int _]) (rest := [.int _, .ref _]) ⟨hx, hb, hml, hown, hts⟩ (m_takes l D K ma op st zs (upd ho (nI r).toNatClampNeg (ho (nI r).toNatClampNeg + 1)) ba g lx cn pe lt le wa ta th ll wt (nI mh) fl (nI L.length) fd B r (z r) w _ hr10 (hz r hr10) (by omega) hzs.1 (by omega) (by omega)) (cwV 2 hts gX3_goes_X3_takes rfl rfl rfl (by decide +kernel) ⟨(Nat.le_of_ble_eq_true rfl), (Nat.le_of_ble_eq_true rfl)⟩) (g_preV hK hP hD (ci := 3) (q0 := 0) rfl (rfl)) rfl rfl hl.1 rfl (lv_room (Nat.le_of_ble_eq_true rfl)) dX3_goes_97 ⟨Nat.zero_le _, Nat.zero_le _⟩) hD hS hA (fun r97 wv H locs hw hP hD hS => ?_)
              obtain ⟨se1, fd1, ew, er, e1, e2⟩ := hw
              rw [ew] at hP hD
              rw [hzs.2.1, hzs.2.2] at er e1
              rw [er]
              refine va_iast hx hb hK hP hD hS (13) 0 (rfl) rfl (vp_in_nI (show p0 < 6 by omega) (by decide)) dX3_goes_100 (fun H locs hP hD hS => ?_)
              have hP : va_P D vwCl (mW K ma th ll (nI B) wt (nI mh) fl (nI L.length) fd1 op st zs (upd ho (nI r).toNatClampNeg (ho (nI r).toNatClampNeg + 1)) ba se1 lx cn pe lt le wa (upd ta (nI p0).toNatClampNeg (nI (tkC (oc r) (z r) (sd r) w)))) H := hP
              have hD : va_D A (mW K ma th ll (nI B) wt (nI mh) fl (nI L.length) fd1 op st zs (upd ho (nI r).toNatClampNeg (ho (nI r).toNatClampNeg + 1)) ba se1 lx cn pe lt le wa (upd ta (nI p0).toNatClampNeg (nI (tkC (oc r) (z r) (sd r) w)))) := hD
              refine lv_iload_n hx hb dX3_goes_101 rfl (lv_at hl 4 rfl) ?_
              refine lv_aload_n hx hb dX3_goes_102 rfl (lv_at hl 5 rfl) ?_
              refine va_get (C := RX3) (T := TX3) (N := 21) (ci := 3) hx hb hts hi_X3 hown hK hP (0) (rfl) rfl 19 (by decide) (hts (.fieldLink RX3 47 "GroupSeatsModel" "taken" "[I") (by decide +kernel)) (fun _ h9 => h9) rfl dX3_goes_103 ?_
              refine lv_iload hx hb dX3_goes_106 (lv_at hl 2 rfl) ?_
              refine va_iald hx hb hK hP (13) 0 (rfl) rfl (vp_in_nI (show p0 < 6 by omega) (by decide)) dX3_goes_108 ?_
              refine lv_isub hx hb dX3_goes_109 ?_
              rw [show upd ta (nI p0).toNatClampNeg (nI (tkC (oc r) (z r) (sd r) w)) (nI p0).toNatClampNeg = nI (tkC (oc r) (z r) (sd r) w) from by simp [upd], pk_sub (tkC_le _ _ _ _)]
              refine lv_istore_n (lv' := [(3, .int _), (7, .int _), (6, .int _), (5, .int _), (4, .int _), (0, .ref _), (1, .int _), (2, .int _)]) hx hb dX3_goes_110 rfl hl (by decide) rfl (fun ls hl => ?_)
              refine lv_iinc (lv' := [(5, .int _), (3, .int _), (7, .int _), (6, .int _), (4, .int _), (0, .ref _), (1, .int _), (2, .int _)]) hx hb dX3_goes_111 hl (k := 3) rfl rfl (by decide) rfl (fun ls hl => ?_)
              rw [g_inc] at hl
              refine lv_aload_n hx hb dX3_goes_114 rfl (lv_at hl 5 rfl) ?_
              refine lv_iload hx hb dX3_goes_115 (lv_at hl 0 rfl) ?_
              refine lv_aload_n hx hb dX3_goes_117 rfl (lv_at hl 5 rfl) ?_
              refine va_get (C := RX3) (T := TX3) (N := 21) (ci := 3) hx hb hts hi_X3 hown hK hP (0) (rfl) rfl 15 (by decide) (hts (.fieldLink RX3 74 "GroupSeatsModel" "most" "I") (by decide +kernel)) (fun _ h9 => h9) rfl dX3_goes_118 ?_
              refine lv_icmp_le (tgt := 129) hx hb dX3_goes_121 (by decide) (fun c121 => ?_) (fun c121 => ?_)
              · refine lv_aload_n hx hb dX3_goes_129 rfl (lv_at hl 5 rfl) ?_
                refine va_get (C := RX3) (T := TX3) (N := 21) (ci := 3) hx hb hts hi_X3 hown hK hP (0) (rfl) rfl 15 (by decide) (hts (.fieldLink RX3 74 "GroupSeatsModel" "most" "I") (by decide +kernel)) (fun _ h9 => h9) rfl dX3_goes_130 ?_
                refine va_put (C := RX3) (T := TX3) (N := 21) (ci := 3) (ty := .int) hx hb hts hi_X3 tyX3 tyX3_ok nmX3 hown hK hP hD hS (0) (rfl) rfl 15 (by decide) (hts (.fieldLink RX3 74 "GroupSeatsModel" "most" "I") (by decide +kernel)) (fun _ h9 => h9) rfl (by decide +kernel) rfl rfl (Nat.le_of_ble_eq_true rfl) dX3_goes_133 (fun H locs hP hD hS => ?_)
                have hP : va_P D vwCl (mW K ma th ll (nI B) wt (nI mh) fl (nI L.length) fd1 op st zs (upd ho (nI r).toNatClampNeg (ho (nI r).toNatClampNeg + 1)) ba se1 lx cn pe lt le wa (upd ta (nI p0).toNatClampNeg (nI (tkC (oc r) (z r) (sd r) w)))) H := hP
                have hD : va_D A (mW K ma th ll (nI B) wt (nI mh) fl (nI L.length) fd1 op st zs (upd ho (nI r).toNatClampNeg (ho (nI r).toNatClampNeg + 1)) ba se1 lx cn pe lt le wa (upd ta (nI p0).toNatClampNeg (nI (tkC (oc r) (z r) (sd r) w)))) := hD
                rw [show (nI mh) = nI (max mh (p0 + 1)) from congrArg nI (by have := (nI_leI (by omega) (by omega)).mp c121; omega)] at hP hD
                refine lv_goto (tgt := 12) hx hb dX3_goes_136 (by decide) ?_
                exact ih (p0 + 1) (w - tkC (oc r) (z r) (sd r) w) (max mh (p0 + 1)) _ ba _ _ fd1 _ H locs hp3 (by omega) (by omega) (by omega) (fun t ht => by rcases Nat.lt_or_eq_of_le (Nat.le_of_lt_succ ht) with q | q; exact hway t q; exact ⟨r, hr10, by rw [q]; exact hp2⟩) (MS_tk hMS e1 e2) (GV_tk hb8 (hz r hr10) hGV) (by rw [← hGF, goA_step hw0 hob]) hP hD hS ls (lv_sub hl [3, 0, 4, 1, 5, 6, 7] rfl)
              · refine lv_iload hx hb dX3_goes_124 (lv_at hl 0 rfl) ?_
                refine lv_goto (tgt := 133) hx hb dX3_goes_126 (by decide) ?_
                refine va_put (C := RX3) (T := TX3) (N := 21) (ci := 3) (ty := .int) hx hb hts hi_X3 tyX3 tyX3_ok nmX3 hown hK hP hD hS (0) (rfl) rfl 15 (by decide) (hts (.fieldLink RX3 74 "GroupSeatsModel" "most" "I") (by decide +kernel)) (fun _ h9 => h9) rfl (by decide +kernel) rfl rfl (Nat.le_of_ble_eq_true rfl) dX3_goes_133 (fun H locs hP hD hS => ?_)
                have hP : va_P D vwCl (mW K ma th ll (nI B) wt (nI (p0 + 1)) fl (nI L.length) fd1 op st zs (upd ho (nI r).toNatClampNeg (ho (nI r).toNatClampNeg + 1)) ba se1 lx cn pe lt le wa (upd ta (nI p0).toNatClampNeg (nI (tkC (oc r) (z r) (sd r) w)))) H := hP
                have hD : va_D A (mW K ma th ll (nI B) wt (nI (p0 + 1)) fl (nI L.length) fd1 op st zs (upd ho (nI r).toNatClampNeg (ho (nI r).toNatClampNeg + 1)) ba se1 lx cn pe lt le wa (upd ta (nI p0).toNatClampNeg (nI (tkC (oc r) (z r) (sd r) w)))) := hD
                rw [show (nI (p0 + 1)) = nI (max mh (p0 + 1)) from congrArg nI (by have : mh < p0 + 1 := Nat.lt_of_not_le (fun q => c121 (nI_le q (by omega))); omega)] at hP hD
                refine lv_goto (tgt := 12) hx hb dX3_goes_136 (by decide) ?_
                exact ih (p0 + 1) (w - tkC (oc r) (z r) (sd r) w) (max mh (p0 + 1)) _ ba _ _ fd1 _ H locs hp3 (by omega) (by omega) (by omega) (fun t ht => by rcases Nat.lt_or_eq_of_le (Nat.le_of_lt_succ ht) with q | q; exact hway t q; exact ⟨r, hr10, by rw [q]; exact hp2⟩) (MS_tk hMS e1 e2) (GV_tk hb8 (hz r hr10) hGV) (by rw [← hGF, goA_step hw0 hob]) hP hD hS ls (lv_sub hl [3, 0, 4, 1, 5, 6, 7] rfl)
            · refine lv_bipush (v := -5) hx hb dX3_goes_66 (by decide) ?_
              refine lv_istore (lv' := [(4, .int _), (7, .int _), (6, .int _), (5, .int _), (3, .int _), (0, .ref _), (1, .int _), (2, .int _)]) hx hb dX3_goes_68 hl (by decide) rfl (fun ls hl => ?_)
              refine lv_iconst (v := 0) hx hb dX3_goes_70 (by decide) ?_
              refine lv_istore (lv' := [(6, .int _), (4, .int _), (7, .int _), (5, .int _), (3, .int _), (0, .ref _), (1, .int _), (2, .int _)]) hx hb dX3_goes_71 hl (by decide) rfl (fun ls hl => ?_)
              refine lv_goto (tgt := 136) hx hb dX3_goes_73 (by decide) ?_
              refine lv_goto (tgt := 12) hx hb dX3_goes_136 (by decide) ?_
              have hzr : z r = 0 := by rw [nI_clamp (n := r) (by omega), (hMS r hr10).1] at c63; exact Classical.not_not.mp (fun q => by rw [if_neg q] at c63; exact absurd c63 (by decide))
              have hob : obsL z (r :: rs) = -5 := by rw [obsL_cons, if_pos hr10, if_pos hzr]
              refine lv_iload hx hb dX3_goes_12 (lv_at hl 0 rfl) ?_
              refine lv_if_eq (tgt := 139) hx hb dX3_goes_14 (by decide) (fun c14 => ?_) (fun c14 => ?_)
              · exact m_fin hz hL hB hn60 hNB (fc := -5) (by decide) (by omega) (by omega) hway hMS hGV (by rw [← hGF, goA_stop hw0 (by rw [hob]; decide), hob, if_neg hw0]) I0 hP hD hS (lv_sub hl [4, 1, 3, 5, 6, 7] rfl)
              · exact absurd rfl c14
          · refine lv_bipush (v := -6) hx hb dX3_goes_46 (by decide) ?_
            refine lv_istore (lv' := [(4, .int _), (7, .int _), (6, .int _), (5, .int _), (3, .int _), (0, .ref _), (1, .int _), (2, .int _)]) hx hb dX3_goes_48 hl (by decide) rfl (fun ls hl => ?_)
            refine lv_iconst (v := 0) hx hb dX3_goes_50 (by decide) ?_
            refine lv_istore (lv' := [(6, .int _), (4, .int _), (7, .int _), (5, .int _), (3, .int _), (0, .ref _), (1, .int _), (2, .int _)]) hx hb dX3_goes_51 hl (by decide) rfl (fun ls hl => ?_)
            refine lv_goto (tgt := 136) hx hb dX3_goes_53 (by decide) ?_
            refine lv_goto (tgt := 12) hx hb dX3_goes_136 (by decide) ?_
            have hob : obsL z (r :: rs) = -6 := by rw [obsL_cons, if_neg (fun q => c43 (nI_lt (b := 10) q (by decide)))]
            refine lv_iload hx hb dX3_goes_12 (lv_at hl 0 rfl) ?_
            refine lv_if_eq (tgt := 139) hx hb dX3_goes_14 (by decide) (fun c14 => ?_) (fun c14 => ?_)
            · exact m_fin hz hL hB hn60 hNB (fc := -6) (by decide) (by omega) (by omega) hway hMS hGV (by rw [← hGF, goA_stop hw0 (by rw [hob]; decide), hob, if_neg hw0]) I0 hP hD hS (lv_sub hl [4, 1, 3, 5, 6, 7] rfl)
            · exact absurd rfl c14
set_option maxHeartbeats 4000000 in
set_option maxRecDepth 100000 in
/-- the model: goes -/
theorem m_goes (l : Launch) (D : va_G) (K : gCl) (ma : Nat → Nat) (op st zs ho ba se lx cn pe lt le wa ta : Nat → Int32) (th ll wt fl fd : Int32) (z : Nat → Nat) (sd : Nat → Int32) (ow : Nat → Nat → Int32) (B mh n : Nat) (mo : Int32) (L : List Nat) (sz : Nat) (hz : ∀ r, r < 10 → z r ≤ 20) (hL : isL wa L) (hB : B < 100) (hn60 : n ≤ 60) (hNB : ∀ r, r < 10 → z r ≠ 0 → ∀ j, j < 20 → ow r j ≠ nI B) (hmh : mh ≤ 100) (hMS : MS z sd op st zs se ow) : gMi l yX3_goes wsX3_goes ({ frames := 3, cells := 0, slots := 0, locals := 120 } : Room) D vwCl (gT K) [.ref (ma 0), .int (nI n), .int mo] (mW K ma th ll (nI B) wt (nI mh) fl (nI L.length) fd op st zs ho ba se lx cn pe lt le wa ta) sz (mTo K ma z sd th ll wt B fl (nI L.length) op st zs lx cn pe lt le wa ow (goA z sd (nI B) n mo L n 0 ow mh)) 0 0 := by
  refine g_of (cc := cX3_goes) (maxL := 8) (ret := (some .int)) (Qc := fun A => va_Qi (mTo K ma z sd th ll wt B fl (nI L.length) op st zs lx cn pe lt le wa ow (goA z sd (nI B) n mo L n 0 ow mh)) (gB D vwCl (gT K) A) A) (by decide) rfl (Nat.le_of_ble_eq_true rfl) ?_
  intro p e s m below meth c A ls I hl
  have I0 := I
  obtain ⟨hx, hb, hr, hml, hown, hts, hlocks, hnm, hA, hK, hP, hD, hS⟩ := I
  have hown : s.vm.findClass RX3 = some m.cls := hown
  have hl : lv_has ls 8 [(0, .ref (ma 0)), (1, .int (nI n)), (2, .int mo)] := hl
  have hi_X3 : ∀ w ∈ u_ws RX3 TX3 21, w ∈ wsX3_goes := by decide +kernel
  refine lv_iload_n hx hb dX3_goes_0 rfl (lv_at hl 1 rfl) ?_
  refine lv_istore_n (lv' := [(3, .int _), (0, .ref _), (1, .int _), (2, .int _)]) hx hb dX3_goes_1 rfl hl (by decide) rfl (fun ls hl => ?_)
  refine lv_bipush (v := -4) hx hb dX3_goes_2 (by decide) ?_
  refine lv_istore (lv' := [(4, .int _), (3, .int _), (0, .ref _), (1, .int _), (2, .int _)]) hx hb dX3_goes_4 hl (by decide) rfl (fun ls hl => ?_)
  refine lv_iconst (v := 0) hx hb dX3_goes_6 (by decide) ?_
  refine lv_istore (lv' := [(5, .int _), (4, .int _), (3, .int _), (0, .ref _), (1, .int _), (2, .int _)]) hx hb dX3_goes_7 hl (by decide) rfl (fun ls hl => ?_)
  refine lv_iconst (v := 1) hx hb dX3_goes_9 (by decide) ?_
  refine lv_istore (lv' := [(6, .int _), (5, .int _), (4, .int _), (3, .int _), (0, .ref _), (1, .int _), (2, .int _)]) hx hb dX3_goes_10 hl (by decide) rfl (fun ls hl => ?_)
  exact lp_goes hz hL hB hn60 hNB I0 L 0 n mh ho ba ta se fd ow _ _ rfl (by omega) hn60 hmh (fun t ht => by omega) hMS GV_0 rfl hP hD hS ls (lv_sub hl [0, 1, 2, 3, 4, 5, 6] rfl)
