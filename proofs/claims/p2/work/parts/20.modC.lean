/-! the model's queue -/
def shI (f : Nat → Int32) (k i : Nat) : Nat → Int32 := fun j => if k ≤ j ∧ j < i then f (j + 1) else f j
def sh6 (f : Nat → Int32) (a b : Nat) : Nat → Int32 := fun x => if a ≤ x ∧ x < b then f (x + 6) else f x
theorem shI_k (f : Nat → Int32) (k : Nat) : shI f k k = f := by funext j; simp only [shI]; rw [if_neg (by omega)]
theorem shI_at {f : Nat → Int32} {k i j : Nat} (h : i ≤ j) : shI f k i j = f j := by simp only [shI]; rw [if_neg (by omega)]
theorem shI_up {f : Nat → Int32} {k i : Nat} (hk : k ≤ i) : upd (shI f k i) i (f (i + 1)) = shI f k (i + 1) := by
  funext j
  by_cases h : j = i
  · subst h; simp [shI, upd, hk]
  · by_cases h1 : k ≤ j ∧ j < i
    · simp only [shI, upd, if_neg h, if_pos h1]; rw [if_pos (by omega)]
    · simp only [shI, upd, if_neg h, if_neg h1]; rw [if_neg (by omega)]
theorem sh6_a (f : Nat → Int32) (a : Nat) : sh6 f a a = f := by funext j; simp only [sh6]; rw [if_neg (by omega)]
theorem sh6_at {f : Nat → Int32} {a b j : Nat} (h : b ≤ j) : sh6 f a b j = f j := by simp only [sh6]; rw [if_neg (by omega)]
theorem sh6_up {f : Nat → Int32} {a b : Nat} (hk : a ≤ b) : upd (sh6 f a b) b (f (b + 6)) = sh6 f a (b + 1) := by
  funext j
  by_cases h : j = b
  · subst h; simp [sh6, upd, hk]
  · by_cases h1 : a ≤ j ∧ j < b
    · simp only [sh6, upd, if_neg h, if_pos h1]; rw [if_pos (by omega)]
    · simp only [sh6, upd, if_neg h, if_neg h1]; rw [if_neg (by omega)]
theorem ix_6 {i t : Nat} (hi : i < 8) (ht : t < 6) : (6 * nI i + nI t).toNatClampNeg = 6 * i + t := by
  rw [show (6 : Int32) = nI 6 from rfl, pk_mul, nI_add]
  exact nI_clamp (by omega)
theorem in_6 {i t : Nat} (hi : i < 8) (ht : t < 6) : vp_in (6 * nI i + nI t) 48 := by
  rw [show (6 : Int32) = nI 6 from rfl, pk_mul, nI_add]
  exact vp_in_nI (by omega) (by decide)
theorem ix_66 {i t : Nat} (hi : i + 1 < 8) (ht : t < 6) : (6 * nI i + 6 + nI t).toNatClampNeg = 6 * i + t + 6 := by
  rw [show (6 : Int32) = nI 6 from rfl, pk_mul, nI_add, nI_add, nI_clamp (by omega)]
  omega
theorem in_66 {i t : Nat} (hi : i + 1 < 8) (ht : t < 6) : vp_in (6 * nI i + 6 + nI t) 48 := by
  rw [show (6 : Int32) = nI 6 from rfl, pk_mul, nI_add, nI_add]
  exact vp_in_nI (by omega) (by decide)
def PI (P : Pty) : Prop := P.2.length ≤ 6 ∧ (∀ r ∈ P.2, r ≤ 11) ∧ 1 ≤ P.1 ∧ P.1 ≤ 60
def MQr (pe lt le : Nat → Int32) (q : List Pty) : Prop := ∀ (i : Nat) (P : Pty), q[i]? = some P → pe i = nI P.1 ∧ le i = nI P.2.length ∧ (∀ t, t < P.2.length → lt (6 * i + t) = nI (P.2.getD t 0)) ∧ PI P
theorem MQr_erase {pe lt le : Nat → Int32} {q : List Pty} {k : Nat} (hk : k < q.length) (h : MQr pe lt le q) : MQr (shI pe k (q.length - 1)) (sh6 lt (6 * k) (6 * (q.length - 1))) (shI le k (q.length - 1)) (q.eraseIdx k) := fun i P hi => by
  have hl := (List.getElem?_eq_some_iff.mp hi).1
  rw [List.length_eraseIdx_of_lt hk] at hl
  rw [List.getElem?_eraseIdx] at hi
  split at hi
  · rename_i c
    obtain ⟨h1, h2, h3, h4⟩ := h i P hi
    refine ⟨?_, ?_, fun t ht => ?_, h4⟩
    · simp only [shI]; rw [if_neg (by omega)]; exact h1
    · simp only [shI]; rw [if_neg (by omega)]; exact h2
    · have := h4.1
      simp only [sh6]; rw [if_neg (by omega)]; exact h3 t ht
  · rename_i c
    obtain ⟨h1, h2, h3, h4⟩ := h (i + 1) P hi
    refine ⟨?_, ?_, fun t ht => ?_, h4⟩
    · simp only [shI]; rw [if_pos (by omega)]; exact h1
    · simp only [shI]; rw [if_pos (by omega)]; exact h2
    · have := h4.1
      simp only [sh6]; rw [if_pos (by omega), show 6 * i + t + 6 = 6 * (i + 1) + t by omega]; exact h3 t ht
/-- the list of a party that waits, written over the way -/
def cpW (lt : Nat → Int32) (k : Nat) (wa : Nat → Int32) (i : Nat) : Nat → Int32 := fun x => if x < i then lt (6 * k + x) else wa x
theorem cpW_0 (lt : Nat → Int32) (k : Nat) (wa : Nat → Int32) : cpW lt k wa 0 = wa := by funext x; simp [cpW]
theorem cpW_up {lt : Nat → Int32} {k : Nat} {wa : Nat → Int32} {i : Nat} : upd (cpW lt k wa i) i (lt (6 * k + i)) = cpW lt k wa (i + 1) := by
  funext x
  by_cases h : x = i
  · subst h; simp [cpW, upd]
  · by_cases h1 : x < i
    · simp [cpW, upd, h, h1, show x < i + 1 by omega]
    · simp [cpW, upd, h, h1, show ¬ x < i + 1 by omega]
theorem tryA_fullAll {z : Nat → Nat} {sd : Nat → Int32} {B : Nat} {ow : Nat → Nat → Int32} {mh : Nat} {fl : Int32} (h : ¬ B < 40) : ∀ ps : List Pty, tryA z sd ps B ow mh fl = (ps, B, ow, mh, fl)
  | [] => rfl
  | P :: ps => by rw [tryA_full h, tryA_fullAll h ps]
/-- owners: nobody, or a booking that was made -/
def OR (z : Nat → Nat) (ow : Nat → Nat → Int32) (B : Nat) : Prop := ∀ r, r < 10 → z r ≠ 0 → ∀ j, j < 20 → ow r j = -8 ∨ ∃ b, b < B ∧ ow r j = nI b
theorem nI_ne8 {B : Nat} (hB : B < 100) : nI B ≠ -8 := fun h => by
  have h2 := congrArg Int32.toInt h
  rw [nI_toInt (by omega)] at h2
  exact absurd h2 (by rw [show (-8 : Int32).toInt = -8 from rfl]; omega)
theorem OR_ne {z : Nat → Nat} {ow : Nat → Nat → Int32} {B : Nat} (h : OR z ow B) (hB : B < 100) : ∀ r, r < 10 → z r ≠ 0 → ∀ j, j < 20 → ow r j ≠ nI B := fun r hr hz j hj e => by
  rcases h r hr hz j hj with q | ⟨b, hb, q⟩
  · exact nI_ne8 hB (e.symm.trans q)
  · have := (nI_eq (by omega) (by omega)).mp (q.symm.trans e); omega
theorem OR_GV {z : Nat → Nat} {ow oc : Nat → Nat → Int32} {B : Nat} (h : OR z ow B) (hg : GV (nI B) ow oc) : OR z oc (B + 1) := fun r hr hz j hj => by
  rcases hg r j with q | ⟨q, _, _⟩
  · rw [q]
    rcases h r hr hz j hj with a | ⟨b, hb, a⟩
    · exact Or.inl a
    · exact Or.inr ⟨b, by omega, a⟩
  · exact Or.inr ⟨B, by omega, q⟩
theorem goA_GV {z : Nat → Nat} {sd : Nat → Int32} {b : Int32} {n : Nat} {mo : Int32} {ow : Nat → Nat → Int32} (hb : b ≠ -8) (hz : ∀ r, r < 10 → z r ≤ 20) : ∀ (rs : List Nat) (w p : Nat) (oc : Nat → Nat → Int32) (mh : Nat), GV b ow oc → GV b ow (goA z sd b n mo rs w p oc mh).2.1
  | [], w, p, oc, mh, h => h
  | r :: rs, w, p, oc, mh, h => by
    simp only [goA]
    split
    · exact h
    · split
      · rename_i ho
        obtain ⟨r1, rs1, e1, e2, e3⟩ := obs_ne ho
        injection e1 with e4 e5
        exact goA_GV hb hz rs _ _ _ _ (GV_tk hb (hz r (by omega)) h)
      · exact h
set_option maxHeartbeats 4000000 in
set_option maxRecDepth 100000 in
theorem lp_rem1 {p : Program} {l : Launch} {e : Env} {s : State} {m : MethodId} {args : Array Value} {below : List Frame} {meth : Method} {c : Code} {A : Nat → Prop} {D : va_G} {K : gCl} {ws0 : va_W} {rm : Room} {ma : Nat → Nat} {op st zs ho ba se lx cn pe lt le wa ta : Nat → Int32} {th ll B mh fl wl fd : Int32} {n k0 i : Nat} {post : va_W → Prop} (hn : n < 8) (hin : i < n) (hki : k0 ≤ i)
    (I : gIn p s m meth c A yX3_removed wsX3_removed cX3_removed 4 none args D vwCl (gT K) ws0) (hE : ∀ (H : Heap) (locs : List Loc), va_P D vwCl (mW K ma th ll B (nI n) mh fl wl fd op st zs ho ba se lx cn (shI pe k0 (i + 1)) (sh6 lt (6 * k0) (6 * i + 6)) (shI le k0 (i + 1)) wa ta) H → va_D A (mW K ma th ll B (nI n) mh fl wl fd op st zs ho ba se lx cn (shI pe k0 (i + 1)) (sh6 lt (6 * k0) (6 * i + 6)) (shI le k0 (i + 1)) wa ta) → va_S A s.heap H locs → ∀ (ls : Array Slot), lv_has ls 4 [(2, .int (nI i)), (0, .ref (ma 0)), (1, .int (nI k0))] → W p l e rm s m args below meth c H locs 0 0 (MQ below (va_Qv (post) (gB D vwCl (gT K) A) A) args s 0 0 A) (F0 m 87 ls [])) :
    ∀ (k : Nat) (t : Nat) (H : Heap) (locs : List Loc), t + k = 6 → va_P D vwCl (mW K ma th ll B (nI n) mh fl wl fd op st zs ho ba se lx cn (shI pe k0 (i + 1)) (sh6 lt (6 * k0) (6 * i + t)) (shI le k0 (i + 1)) wa ta) H → va_D A (mW K ma th ll B (nI n) mh fl wl fd op st zs ho ba se lx cn (shI pe k0 (i + 1)) (sh6 lt (6 * k0) (6 * i + t)) (shI le k0 (i + 1)) wa ta) → va_S A s.heap H locs →
    ∀ (ls : Array Slot), lv_has ls 4 [(3, .int (nI t)), (2, .int (nI i)), (0, .ref (ma 0)), (1, .int (nI k0))] →
    W p l e rm s m args below meth c H locs 0 0 (MQ below (va_Qv (post) (gB D vwCl (gT K) A) A) args s 0 0 A) (F0 m 50 ls []) := by
  have I0 := I
  obtain ⟨hx, hb, hr, hml, hown, hts, hlocks, hnm, hA, hK, -, -, -⟩ := I
  have hown : s.vm.findClass RX3 = some m.cls := hown
  have hi_X3 : ∀ w ∈ u_ws RX3 TX3 21, w ∈ wsX3_removed := by decide +kernel
  intro k
  induction k with
  | zero =>
    intro t H locs hi hP hD hS ls hl
    refine lv_iload_n hx hb dX3_removed_50 rfl (lv_at hl 0 rfl) ?_
    refine lv_bipush (v := 6) hx hb dX3_removed_51 (by decide) ?_
    refine lv_icmp_ge (tgt := 87) hx hb dX3_removed_53 (by decide) (fun c53 => ?_) (fun c53 => ?_)
    · have ht6 : t = 6 := by omega
      subst ht6
      exact hE H locs hP hD hS ls (lv_sub hl [1, 2, 3] rfl)
    · exact absurd (nI_le (a := 6) (by omega) (by omega)) c53
  | succ k ih =>
    intro t H locs hi hP hD hS ls hl
    refine lv_iload_n hx hb dX3_removed_50 rfl (lv_at hl 0 rfl) ?_
    refine lv_bipush (v := 6) hx hb dX3_removed_51 (by decide) ?_
    refine lv_icmp_ge (tgt := 87) hx hb dX3_removed_53 (by decide) (fun c53 => ?_) (fun c53 => ?_)
    · exact absurd c53 (nI_ge (b := 6) (by omega) (by decide))
    · refine lv_aload_n hx hb dX3_removed_56 rfl (lv_at hl 2 rfl) ?_
      refine va_get (C := RX3) (T := TX3) (N := 21) (ci := 3) hx hb hts hi_X3 hown hK hP (0) (rfl) rfl 12 (by decide) (hts (.fieldLink RX3 38 "GroupSeatsModel" "lists" "[I") (by decide +kernel)) (fun _ h9 => h9) rfl dX3_removed_57 ?_
      refine lv_bipush (v := 6) hx hb dX3_removed_60 (by decide) ?_
      refine lv_iload_n hx hb dX3_removed_62 rfl (lv_at hl 1 rfl) ?_
      refine lv_imul hx hb dX3_removed_63 ?_
      refine lv_iload_n hx hb dX3_removed_64 rfl (lv_at hl 0 rfl) ?_
      refine lv_iadd hx hb dX3_removed_65 ?_
      refine lv_aload_n hx hb dX3_removed_66 rfl (lv_at hl 2 rfl) ?_
      refine va_get (C := RX3) (T := TX3) (N := 21) (ci := 3) hx hb hts hi_X3 hown hK hP (0) (rfl) rfl 12 (by decide) (hts (.fieldLink RX3 38 "GroupSeatsModel" "lists" "[I") (by decide +kernel)) (fun _ h9 => h9) rfl dX3_removed_67 ?_
      refine lv_bipush (v := 6) hx hb dX3_removed_70 (by decide) ?_
      refine lv_iload_n hx hb dX3_removed_72 rfl (lv_at hl 1 rfl) ?_
      refine lv_imul hx hb dX3_removed_73 ?_
      refine lv_bipush (v := 6) hx hb dX3_removed_74 (by decide) ?_
      refine lv_iadd hx hb dX3_removed_76 ?_
      refine lv_iload_n hx hb dX3_removed_77 rfl (lv_at hl 0 rfl) ?_
      refine lv_iadd hx hb dX3_removed_78 ?_
      refine va_iald hx hb hK hP (10) 0 (rfl) rfl (in_66 (by omega) (by omega)) dX3_removed_79 ?_
      refine va_iast hx hb hK hP hD hS (10) 0 (rfl) rfl (in_6 (by omega) (by omega)) dX3_removed_80 (fun H locs hP hD hS => ?_)
      have hP : va_P D vwCl (mW K ma th ll B (nI n) mh fl wl fd op st zs ho ba se lx cn (shI pe k0 (i + 1)) (upd (sh6 lt (6 * k0) (6 * i + t)) (6 * nI i + nI t).toNatClampNeg (sh6 lt (6 * k0) (6 * i + t) (6 * nI i + 6 + nI t).toNatClampNeg)) (shI le k0 (i + 1)) wa ta) H := hP
      have hD : va_D A (mW K ma th ll B (nI n) mh fl wl fd op st zs ho ba se lx cn (shI pe k0 (i + 1)) (upd (sh6 lt (6 * k0) (6 * i + t)) (6 * nI i + nI t).toNatClampNeg (sh6 lt (6 * k0) (6 * i + t) (6 * nI i + 6 + nI t).toNatClampNeg)) (shI le k0 (i + 1)) wa ta) := hD
      refine lv_iinc (lv' := [(3, .int _), (2, .int _), (0, .ref _), (1, .int _)]) hx hb dX3_removed_81 hl (k := 0) rfl rfl (by decide) rfl (fun ls hl => ?_)
      refine lv_goto (tgt := 50) hx hb dX3_removed_84 (by decide) ?_
      rw [g_inc] at hl
      rw [ix_6 (by omega) (by omega), ix_66 (by omega) (by omega), sh6_at (by omega), sh6_up (by omega)] at hP hD
      exact ih (t + 1) H locs (by omega) hP hD hS ls (lv_sub hl [0, 1, 2, 3] rfl)
set_option maxHeartbeats 4000000 in
set_option maxRecDepth 100000 in
theorem lp_rem2 {p : Program} {l : Launch} {e : Env} {s : State} {m : MethodId} {args : Array Value} {below : List Frame} {meth : Method} {c : Code} {A : Nat → Prop} {D : va_G} {K : gCl} {ws0 : va_W} {rm : Room} {ma : Nat → Nat} {op st zs ho ba se lx cn pe lt le wa ta : Nat → Int32} {th ll B mh fl wl fd : Int32} {n k0 : Nat} (hn : n < 8)
    (I : gIn p s m meth c A yX3_removed wsX3_removed cX3_removed 4 none args D vwCl (gT K) ws0)  :
    ∀ (k : Nat) (i : Nat) (H : Heap) (locs : List Loc), i + k = n → k0 ≤ i → va_P D vwCl (mW K ma th ll B (nI n) mh fl wl fd op st zs ho ba se lx cn (shI pe k0 i) (sh6 lt (6 * k0) (6 * i)) (shI le k0 i) wa ta) H → va_D A (mW K ma th ll B (nI n) mh fl wl fd op st zs ho ba se lx cn (shI pe k0 i) (sh6 lt (6 * k0) (6 * i)) (shI le k0 i) wa ta) → va_S A s.heap H locs →
    ∀ (ls : Array Slot), lv_has ls 4 [(2, .int (nI i)), (0, .ref (ma 0)), (1, .int (nI k0))] →
    W p l e rm s m args below meth c H locs 0 0 (MQ below (va_Qv (fun w1 => w1 = mW K ma th ll B (nI n) mh fl wl fd op st zs ho ba se lx cn (shI pe k0 n) (sh6 lt (6 * k0) (6 * n)) (shI le k0 n) wa ta) (gB D vwCl (gT K) A) A) args s 0 0 A) (F0 m 12 ls []) := by
  have I0 := I
  obtain ⟨hx, hb, hr, hml, hown, hts, hlocks, hnm, hA, hK, -, -, -⟩ := I
  have hown : s.vm.findClass RX3 = some m.cls := hown
  have hi_X3 : ∀ w ∈ u_ws RX3 TX3 21, w ∈ wsX3_removed := by decide +kernel
  intro k
  induction k with
  | zero =>
    intro i H locs hi hki hP hD hS ls hl
    have hin : i = n := by omega
    subst hin
    refine lv_iload_n hx hb dX3_removed_12 rfl (lv_at hl 0 rfl) ?_
    refine lv_aload_n hx hb dX3_removed_13 rfl (lv_at hl 1 rfl) ?_
    refine va_get (C := RX3) (T := TX3) (N := 21) (ci := 3) hx hb hts hi_X3 hown hK hP (0) (rfl) rfl 14 (by decide) (hts (.fieldLink RX3 84 "GroupSeatsModel" "waits" "I") (by decide +kernel)) (fun _ h9 => h9) rfl dX3_removed_14 ?_
    refine lv_icmp_ge (tgt := 93) hx hb dX3_removed_17 (by decide) (fun c17 => ?_) (fun c17 => ?_)
    · exact g_vret hx hb hr hlocks (Nat.le_of_ble_eq_true rfl) (Nat.le_of_ble_eq_true rfl) hK hP hD hS dX3_removed_93 (rfl)
    · exact absurd (nI_le (by omega) (by omega)) c17
  | succ k ih =>
    intro i H locs hi hki hP hD hS ls hl
    refine lv_iload_n hx hb dX3_removed_12 rfl (lv_at hl 0 rfl) ?_
    refine lv_aload_n hx hb dX3_removed_13 rfl (lv_at hl 1 rfl) ?_
    refine va_get (C := RX3) (T := TX3) (N := 21) (ci := 3) hx hb hts hi_X3 hown hK hP (0) (rfl) rfl 14 (by decide) (hts (.fieldLink RX3 84 "GroupSeatsModel" "waits" "I") (by decide +kernel)) (fun _ h9 => h9) rfl dX3_removed_14 ?_
    refine lv_icmp_ge (tgt := 93) hx hb dX3_removed_17 (by decide) (fun c17 => ?_) (fun c17 => ?_)
    · exact absurd c17 (nI_ge (by omega) (by omega))
    · refine lv_aload_n hx hb dX3_removed_20 rfl (lv_at hl 1 rfl) ?_
      refine va_get (C := RX3) (T := TX3) (N := 21) (ci := 3) hx hb hts hi_X3 hown hK hP (0) (rfl) rfl 11 (by decide) (hts (.fieldLink RX3 35 "GroupSeatsModel" "people" "[I") (by decide +kernel)) (fun _ h9 => h9) rfl dX3_removed_21 ?_
      refine lv_iload_n hx hb dX3_removed_24 rfl (lv_at hl 0 rfl) ?_
      refine lv_aload_n hx hb dX3_removed_25 rfl (lv_at hl 1 rfl) ?_
      refine va_get (C := RX3) (T := TX3) (N := 21) (ci := 3) hx hb hts hi_X3 hown hK hP (0) (rfl) rfl 11 (by decide) (hts (.fieldLink RX3 35 "GroupSeatsModel" "people" "[I") (by decide +kernel)) (fun _ h9 => h9) rfl dX3_removed_26 ?_
      refine lv_iload_n hx hb dX3_removed_29 rfl (lv_at hl 0 rfl) ?_
      refine lv_iconst (v := 1) hx hb dX3_removed_30 (by decide) ?_
      refine lv_iadd hx hb dX3_removed_31 ?_
      rw [nI_1]
      refine va_iald hx hb hK hP (9) 0 (rfl) rfl (vp_in_nI (show i + 1 < 8 by omega) (by decide)) dX3_removed_32 ?_
      refine va_iast hx hb hK hP hD hS (9) 0 (rfl) rfl (vp_in_nI (show i < 8 by omega) (by decide)) dX3_removed_33 (fun H locs hP hD hS => ?_)
      have hP : va_P D vwCl (mW K ma th ll B (nI n) mh fl wl fd op st zs ho ba se lx cn (upd (shI pe k0 i) (nI i).toNatClampNeg (shI pe k0 i (nI (i + 1)).toNatClampNeg)) (sh6 lt (6 * k0) (6 * i)) (shI le k0 i) wa ta) H := hP
      have hD : va_D A (mW K ma th ll B (nI n) mh fl wl fd op st zs ho ba se lx cn (upd (shI pe k0 i) (nI i).toNatClampNeg (shI pe k0 i (nI (i + 1)).toNatClampNeg)) (sh6 lt (6 * k0) (6 * i)) (shI le k0 i) wa ta) := hD
      rw [nI_clamp (n := i) (by omega), nI_clamp (n := i + 1) (by omega), shI_at (j := i + 1) (by omega), shI_up (by omega)] at hP hD
      refine lv_aload_n hx hb dX3_removed_34 rfl (lv_at hl 1 rfl) ?_
      refine va_get (C := RX3) (T := TX3) (N := 21) (ci := 3) hx hb hts hi_X3 hown hK hP (0) (rfl) rfl 13 (by decide) (hts (.fieldLink RX3 41 "GroupSeatsModel" "lengths" "[I") (by decide +kernel)) (fun _ h9 => h9) rfl dX3_removed_35 ?_
      refine lv_iload_n hx hb dX3_removed_38 rfl (lv_at hl 0 rfl) ?_
      refine lv_aload_n hx hb dX3_removed_39 rfl (lv_at hl 1 rfl) ?_
      refine va_get (C := RX3) (T := TX3) (N := 21) (ci := 3) hx hb hts hi_X3 hown hK hP (0) (rfl) rfl 13 (by decide) (hts (.fieldLink RX3 41 "GroupSeatsModel" "lengths" "[I") (by decide +kernel)) (fun _ h9 => h9) rfl dX3_removed_40 ?_
      refine lv_iload_n hx hb dX3_removed_43 rfl (lv_at hl 0 rfl) ?_
      refine lv_iconst (v := 1) hx hb dX3_removed_44 (by decide) ?_
      refine lv_iadd hx hb dX3_removed_45 ?_
      rw [nI_1]
      refine va_iald hx hb hK hP (11) 0 (rfl) rfl (vp_in_nI (show i + 1 < 8 by omega) (by decide)) dX3_removed_46 ?_
      refine va_iast hx hb hK hP hD hS (11) 0 (rfl) rfl (vp_in_nI (show i < 8 by omega) (by decide)) dX3_removed_47 (fun H locs hP hD hS => ?_)
      have hP : va_P D vwCl (mW K ma th ll B (nI n) mh fl wl fd op st zs ho ba se lx cn (shI pe k0 (i + 1)) (sh6 lt (6 * k0) (6 * i)) (upd (shI le k0 i) (nI i).toNatClampNeg (shI le k0 i (nI (i + 1)).toNatClampNeg)) wa ta) H := hP
      have hD : va_D A (mW K ma th ll B (nI n) mh fl wl fd op st zs ho ba se lx cn (shI pe k0 (i + 1)) (sh6 lt (6 * k0) (6 * i)) (upd (shI le k0 i) (nI i).toNatClampNeg (shI le k0 i (nI (i + 1)).toNatClampNeg)) wa ta) := hD
      rw [nI_clamp (n := i) (by omega), nI_clamp (n := i + 1) (by omega), shI_at (j := i + 1) (by omega), shI_up (by omega)] at hP hD
      refine lv_iconst (v := 0) hx hb dX3_removed_48 (by decide) ?_
      refine lv_istore_n (lv' := [(3, .int _), (2, .int _), (0, .ref _), (1, .int _)]) hx hb dX3_removed_49 rfl hl (by decide) rfl (fun ls hl => ?_)
      refine lp_rem1 hn (i := i) (by omega) (by omega) I0 ?_ 6 0 _ _ (by omega) hP hD hS ls (lv_sub hl [0, 1, 2, 3] rfl)
      intro H locs hP hD hS ls hl
      rw [show 6 * i + 6 = 6 * (i + 1) by omega] at hP hD
      refine lv_iinc (lv' := [(2, .int _), (0, .ref _), (1, .int _)]) hx hb dX3_removed_87 hl (k := 0) rfl rfl (by decide) rfl (fun ls hl => ?_)
      refine lv_goto (tgt := 12) hx hb dX3_removed_90 (by decide) ?_
      rw [g_inc] at hl
      exact ih (i + 1) H locs (by omega) (by omega) hP hD hS ls (lv_sub hl [0, 1, 2] rfl)
set_option maxHeartbeats 4000000 in
set_option maxRecDepth 100000 in
/-- the model: removed -/
theorem m_removed (l : Launch) (D : va_G) (K : gCl) (ma : Nat → Nat) (op st zs ho ba se lx cn pe lt le wa ta : Nat → Int32) (th ll B mh fl wl fd : Int32) (wt k0 : Nat) (sz : Nat) (hwt : wt ≤ 8) (hk0 : k0 < wt) : gMv l yX3_removed wsX3_removed ({ frames := 0, cells := 0, slots := 0, locals := 0 } : Room) D vwCl (gT K) [.ref (ma 0), .int (nI k0)] (mW K ma th ll B (nI wt) mh fl wl fd op st zs ho ba se lx cn pe lt le wa ta) sz (fun w1 => w1 = mW K ma th ll B (nI (wt - 1)) mh fl wl fd op st zs ho ba se lx cn (shI pe k0 (wt - 1)) (sh6 lt (6 * k0) (6 * (wt - 1))) (shI le k0 (wt - 1)) wa ta) 0 0 := by
  refine g_of (cc := cX3_removed) (maxL := 4) (ret := none) (Qc := fun A => va_Qv (fun w1 => w1 = mW K ma th ll B (nI (wt - 1)) mh fl wl fd op st zs ho ba se lx cn (shI pe k0 (wt - 1)) (sh6 lt (6 * k0) (6 * (wt - 1))) (shI le k0 (wt - 1)) wa ta) (gB D vwCl (gT K) A) A) (by decide) rfl (Nat.le_of_ble_eq_true rfl) ?_
  intro p e s m below meth c A ls I hl
  have I0 := I
  obtain ⟨hx, hb, hr, hml, hown, hts, hlocks, hnm, hA, hK, hP, hD, hS⟩ := I
  have hown : s.vm.findClass RX3 = some m.cls := hown
  have hl : lv_has ls 4 [(0, .ref (ma 0)), (1, .int (nI k0))] := hl
  have hi_X3 : ∀ w ∈ u_ws RX3 TX3 21, w ∈ wsX3_removed := by decide +kernel
  refine lv_aload_n hx hb dX3_removed_0 rfl (lv_at hl 0 rfl) ?_
  refine lv_dup hx hb dX3_removed_1 rfl ?_
  refine va_get (C := RX3) (T := TX3) (N := 21) (ci := 3) hx hb hts hi_X3 hown hK hP (0) (rfl) rfl 14 (by decide) (hts (.fieldLink RX3 84 "GroupSeatsModel" "waits" "I") (by decide +kernel)) (fun _ h9 => h9) rfl dX3_removed_2 ?_
  refine lv_iconst (v := 1) hx hb dX3_removed_5 (by decide) ?_
  refine lv_isub hx hb dX3_removed_6 ?_
  refine va_put (C := RX3) (T := TX3) (N := 21) (ci := 3) (ty := .int) hx hb hts hi_X3 tyX3 tyX3_ok nmX3 hown hK hP hD hS (0) (rfl) rfl 14 (by decide) (hts (.fieldLink RX3 84 "GroupSeatsModel" "waits" "I") (by decide +kernel)) (fun _ h9 => h9) rfl (by decide +kernel) rfl rfl (Nat.le_of_ble_eq_true rfl) dX3_removed_7 (fun H locs hP hD hS => ?_)
  have hP : va_P D vwCl (mW K ma th ll B (nI wt - 1) mh fl wl fd op st zs ho ba se lx cn pe lt le wa ta) H := hP
  have hD : va_D A (mW K ma th ll B (nI wt - 1) mh fl wl fd op st zs ho ba se lx cn pe lt le wa ta) := hD
  rw [show nI wt - 1 = nI (wt - 1) from by have := nI_pred (wt - 1); rw [show wt - 1 + 1 = wt by omega] at this; exact this] at hP hD
  refine lv_iload_n hx hb dX3_removed_10 rfl (lv_at hl 1 rfl) ?_
  refine lv_istore_n (lv' := [(2, .int _), (0, .ref _), (1, .int _)]) hx hb dX3_removed_11 rfl hl (by decide) rfl (fun ls hl => ?_)
  exact lp_rem2 (n := wt - 1) (by omega) I0 (wt - 1 - k0) k0 _ _ (by omega) (by omega) (by rw [shI_k, shI_k, sh6_a]; exact hP) (by rw [shI_k, shI_k, sh6_a]; exact hD) hS ls (lv_sub hl [0, 1, 2] rfl)
set_option maxHeartbeats 4000000 in
set_option maxRecDepth 100000 in
theorem lp_tr1 {p : Program} {l : Launch} {e : Env} {s : State} {m : MethodId} {args : Array Value} {below : List Frame} {meth : Method} {c : Code} {A : Nat → Prop} {D : va_G} {K : gCl} {ws0 : va_W} {ma : Nat → Nat} {op st zs ho ba se lx cn pe lt le wa ta : Nat → Int32} {th ll B wt mh fl fd dn : Int32} {n k0 : Nat} {post : Int32 → va_W → Prop} (hn : n ≤ 6) (hk0 : k0 < 8)
    (I : gIn p s m meth c A yX3_tried wsX3_tried cX3_tried 4 (some .int) args D vwCl (gT K) ws0) (hE : ∀ (H : Heap) (locs : List Loc), va_P D vwCl (mW K ma th ll B wt mh fl (nI n) fd op st zs ho ba se lx cn pe lt le (cpW lt k0 wa n) ta) H → va_D A (mW K ma th ll B wt mh fl (nI n) fd op st zs ho ba se lx cn pe lt le (cpW lt k0 wa n) ta) → va_S A s.heap H locs → ∀ (ls : Array Slot), lv_has ls 4 [(2, .int (nI k0)), (1, .int dn), (0, .ref (ma 0))] → W p l e ({ frames := 5, cells := 0, slots := 0, locals := 200 } : Room) s m args below meth c H locs 0 0 (MQ below (va_Qi (post) (gB D vwCl (gT K) A) A) args s 0 0 A) (F0 m 64 ls [])) :
    ∀ (k : Nat) (i : Nat) (H : Heap) (locs : List Loc), i + k = n → va_P D vwCl (mW K ma th ll B wt mh fl (nI n) fd op st zs ho ba se lx cn pe lt le (cpW lt k0 wa i) ta) H → va_D A (mW K ma th ll B wt mh fl (nI n) fd op st zs ho ba se lx cn pe lt le (cpW lt k0 wa i) ta) → va_S A s.heap H locs →
    ∀ (ls : Array Slot), lv_has ls 4 [(3, .int (nI i)), (2, .int (nI k0)), (1, .int dn), (0, .ref (ma 0))] →
    W p l e ({ frames := 5, cells := 0, slots := 0, locals := 200 } : Room) s m args below meth c H locs 0 0 (MQ below (va_Qi (post) (gB D vwCl (gT K) A) A) args s 0 0 A) (F0 m 33 ls []) := by
  have I0 := I
  obtain ⟨hx, hb, hr, hml, hown, hts, hlocks, hnm, hA, hK, -, -, -⟩ := I
  have hown : s.vm.findClass RX3 = some m.cls := hown
  have hi_X3 : ∀ w ∈ u_ws RX3 TX3 21, w ∈ wsX3_tried := by decide +kernel
  intro k
  induction k with
  | zero =>
    intro i H locs hi hP hD hS ls hl
    refine lv_iload_n hx hb dX3_tried_33 rfl (lv_at hl 0 rfl) ?_
    refine lv_aload_n hx hb dX3_tried_34 rfl (lv_at hl 3 rfl) ?_
    refine va_get (C := RX3) (T := TX3) (N := 21) (ci := 3) hx hb hts hi_X3 hown hK hP (0) (rfl) rfl 18 (by decide) (hts (.fieldLink RX3 68 "GroupSeatsModel" "wayLong" "I") (by decide +kernel)) (fun _ h9 => h9) rfl dX3_tried_35 ?_
    refine lv_icmp_ge (tgt := 64) hx hb dX3_tried_38 (by decide) (fun c38 => ?_) (fun c38 => ?_)
    · have hin : i = n := by omega
      subst hin
      exact hE H locs hP hD hS ls (lv_sub hl [1, 2, 3] rfl)
    · exact absurd (nI_le (by omega) (by omega)) c38
  | succ k ih =>
    intro i H locs hi hP hD hS ls hl
    refine lv_iload_n hx hb dX3_tried_33 rfl (lv_at hl 0 rfl) ?_
    refine lv_aload_n hx hb dX3_tried_34 rfl (lv_at hl 3 rfl) ?_
    refine va_get (C := RX3) (T := TX3) (N := 21) (ci := 3) hx hb hts hi_X3 hown hK hP (0) (rfl) rfl 18 (by decide) (hts (.fieldLink RX3 68 "GroupSeatsModel" "wayLong" "I") (by decide +kernel)) (fun _ h9 => h9) rfl dX3_tried_35 ?_
    refine lv_icmp_ge (tgt := 64) hx hb dX3_tried_38 (by decide) (fun c38 => ?_) (fun c38 => ?_)
    · exact absurd c38 (nI_ge (by omega) (by omega))
    · refine lv_aload_n hx hb dX3_tried_41 rfl (lv_at hl 3 rfl) ?_
      refine va_get (C := RX3) (T := TX3) (N := 21) (ci := 3) hx hb hts hi_X3 hown hK hP (0) (rfl) rfl 17 (by decide) (hts (.fieldLink RX3 44 "GroupSeatsModel" "way" "[I") (by decide +kernel)) (fun _ h9 => h9) rfl dX3_tried_42 ?_
      refine lv_iload_n hx hb dX3_tried_45 rfl (lv_at hl 0 rfl) ?_
      refine lv_aload_n hx hb dX3_tried_46 rfl (lv_at hl 3 rfl) ?_
      refine va_get (C := RX3) (T := TX3) (N := 21) (ci := 3) hx hb hts hi_X3 hown hK hP (0) (rfl) rfl 12 (by decide) (hts (.fieldLink RX3 38 "GroupSeatsModel" "lists" "[I") (by decide +kernel)) (fun _ h9 => h9) rfl dX3_tried_47 ?_
      refine lv_bipush (v := 6) hx hb dX3_tried_50 (by decide) ?_
      refine lv_iload_n hx hb dX3_tried_52 rfl (lv_at hl 1 rfl) ?_
      refine lv_imul hx hb dX3_tried_53 ?_
      refine lv_iload_n hx hb dX3_tried_54 rfl (lv_at hl 0 rfl) ?_
      refine lv_iadd hx hb dX3_tried_55 ?_
      refine va_iald hx hb hK hP (10) 0 (rfl) rfl (in_6 (by omega) (by omega)) dX3_tried_56 ?_
      refine va_iast hx hb hK hP hD hS (12) 0 (rfl) rfl (vp_in_nI (show i < 6 by omega) (by decide)) dX3_tried_57 (fun H locs hP hD hS => ?_)
      have hP : va_P D vwCl (mW K ma th ll B wt mh fl (nI n) fd op st zs ho ba se lx cn pe lt le (upd (cpW lt k0 wa i) (nI i).toNatClampNeg (lt (6 * nI k0 + nI i).toNatClampNeg)) ta) H := hP
      have hD : va_D A (mW K ma th ll B wt mh fl (nI n) fd op st zs ho ba se lx cn pe lt le (upd (cpW lt k0 wa i) (nI i).toNatClampNeg (lt (6 * nI k0 + nI i).toNatClampNeg)) ta) := hD
      refine lv_iinc (lv' := [(3, .int _), (2, .int _), (1, .int _), (0, .ref _)]) hx hb dX3_tried_58 hl (k := 0) rfl rfl (by decide) rfl (fun ls hl => ?_)
      refine lv_goto (tgt := 33) hx hb dX3_tried_61 (by decide) ?_
      rw [g_inc] at hl
      rw [nI_clamp (n := i) (by omega), ix_6 (by omega) (by omega), cpW_up] at hP hD
      exact ih (i + 1) H locs (by omega) hP hD hS ls (lv_sub hl [0, 1, 2, 3] rfl)
def mRo (K : gCl) (ma : Nat → Nat) (z : Nat → Nat) (sd : Nat → Int32) (th ll : Int32) (op st zs lx cn : Nat → Int32) (N0 : Nat) (F : List Pty × Nat × (Nat → Nat → Int32) × Nat × Int32) : Int32 → va_W → Prop := fun r1 w1 => r1 = nI (N0 - F.1.length) ∧ ∃ (ho1 ba1 se1 ta1 wa1 pe1 lt1 le1 : Nat → Int32) (wl1 fd1 : Int32), w1 = mW K ma th ll (nI F.2.1) (nI F.1.length) (nI F.2.2.2.1) F.2.2.2.2 wl1 fd1 op st zs ho1 ba1 se1 lx cn pe1 lt1 le1 wa1 ta1 ∧ MS z sd op st zs se1 F.2.2.1 ∧ MQr pe1 lt1 le1 F.1
set_option maxHeartbeats 4000000 in
set_option maxRecDepth 100000 in
theorem lp_tr2 {p : Program} {l : Launch} {e : Env} {s : State} {m : MethodId} {args : Array Value} {below : List Frame} {meth : Method} {c : Code} {A : Nat → Prop} {D : va_G} {K : gCl} {ws0 : va_W} {ma : Nat → Nat} {op st zs lx cn : Nat → Int32} {th ll : Int32} {z : Nat → Nat} {sd : Nat → Int32} {N0 : Nat} {F : List Pty × Nat × (Nat → Nat → Int32) × Nat × Int32} (hz : ∀ r, r < 10 → z r ≤ 20) (hN8 : N0 ≤ 8)
    (I : gIn p s m meth c A yX3_tried wsX3_tried cX3_tried 4 (some .int) args D vwCl (gT K) ws0)  :
    ∀ (ps : List Pty) (k0 dn B mh wt : Nat) (St : List Pty) (ho ba se ta wa pe lt le : Nat → Int32) (wl fd : Int32) (ow : Nat → Nat → Int32) (fl : Int32) (H : Heap) (locs : List Loc), St.length = k0 → dn + wt = N0 → (St ++ ps).length = wt → wt ≤ 8 → B ≤ 40 → mh ≤ 6 → OR z ow B → MS z sd op st zs se ow → MQr pe lt le (St ++ ps) → St ++ (tryA z sd ps B ow mh fl).1 = F.1 → (tryA z sd ps B ow mh fl).2 = F.2 → va_P D vwCl (mW K ma th ll (nI B) (nI wt) (nI mh) fl wl fd op st zs ho ba se lx cn pe lt le wa ta) H → va_D A (mW K ma th ll (nI B) (nI wt) (nI mh) fl wl fd op st zs ho ba se lx cn pe lt le wa ta) → va_S A s.heap H locs →
    ∀ (ls : Array Slot), lv_has ls 4 [(2, .int (nI k0)), (1, .int (nI dn)), (0, .ref (ma 0))] →
    W p l e ({ frames := 5, cells := 0, slots := 0, locals := 200 } : Room) s m args below meth c H locs 0 0 (MQ below (va_Qi (mRo K ma z sd th ll op st zs lx cn N0 F) (gB D vwCl (gT K) A) A) args s 0 0 A) (F0 m 4 ls []) := by
  have I0 := I
  obtain ⟨hx, hb, hr, hml, hown, hts, hlocks, hnm, hA, hK, -, -, -⟩ := I
  have hown : s.vm.findClass RX3 = some m.cls := hown
  have hi_X3 : ∀ w ∈ u_ws RX3 TX3 21, w ∈ wsX3_tried := by decide +kernel
  intro ps
  induction ps with
  | nil =>
    intro k0 dn B mh wt St ho ba se ta wa pe lt le wl fd ow fl H locs hSl hdn hlen hwt8 hB40 hmh6 hOR hMS hQ hF1 hF2 hP hD hS ls hl
    have hlen0 : St.length = wt := by rw [List.append_nil] at hlen; exact hlen
    refine lv_iload_n hx hb dX3_tried_4 rfl (lv_at hl 0 rfl) ?_
    refine lv_aload_n hx hb dX3_tried_5 rfl (lv_at hl 2 rfl) ?_
    refine va_get (C := RX3) (T := TX3) (N := 21) (ci := 3) hx hb hts hi_X3 hown hK hP (0) (rfl) rfl 14 (by decide) (hts (.fieldLink RX3 84 "GroupSeatsModel" "waits" "I") (by decide +kernel)) (fun _ h9 => h9) rfl dX3_tried_6 ?_
    refine lv_icmp_ge (tgt := 95) hx hb dX3_tried_9 (by decide) (fun c9 => ?_) (fun c9 => ?_)
    · refine lv_iload_n hx hb dX3_tried_95 rfl (lv_at hl 1 rfl) ?_
      exact g_iret hx hb hr hlocks (Nat.le_of_ble_eq_true rfl) (Nat.le_of_ble_eq_true rfl) hK hP hD hS dX3_tried_96 (by simp only [tryA] at hF1 hF2; exact ⟨by rw [← hF1]; congr 1; omega, ho, ba, se, ta, wa, pe, lt, le, wl, fd, by rw [← hF1, ← hF2, hlen], by rw [← hF2]; exact hMS, by rw [← hF1]; exact hQ⟩)
    · exact absurd (nI_le (by rw [List.append_nil] at hlen; omega) (by omega)) c9
  | cons P ps ih =>
    intro k0 dn B mh wt St ho ba se ta wa pe lt le wl fd ow fl H locs hSl hdn hlen hwt8 hB40 hmh6 hOR hMS hQ hF1 hF2 hP hD hS ls hl
    have hlenc : St.length + (ps.length + 1) = wt := by rw [List.length_append, List.length_cons] at hlen; exact hlen
    have hPa := hQ k0 P (by rw [List.getElem?_append_right (by omega), show k0 - St.length = 0 by omega]; rfl)
    have hPi := hPa.2.2.2
    have hP1 := hPi.2.2.1
    have hP2 := hPi.2.2.2
    have hLP : isL (cpW lt k0 wa P.2.length) P.2 := ⟨hPi.1, fun t ht => by simp only [cpW]; rw [if_pos ht]; exact hPa.2.2.1 t ht, hPi.2.1⟩
    refine lv_iload_n hx hb dX3_tried_4 rfl (lv_at hl 0 rfl) ?_
    refine lv_aload_n hx hb dX3_tried_5 rfl (lv_at hl 2 rfl) ?_
    refine va_get (C := RX3) (T := TX3) (N := 21) (ci := 3) hx hb hts hi_X3 hown hK hP (0) (rfl) rfl 14 (by decide) (hts (.fieldLink RX3 84 "GroupSeatsModel" "waits" "I") (by decide +kernel)) (fun _ h9 => h9) rfl dX3_tried_6 ?_
    refine lv_icmp_ge (tgt := 95) hx hb dX3_tried_9 (by decide) (fun c9 => ?_) (fun c9 => ?_)
    · exact absurd c9 (nI_ge (by omega) (by omega))
    · refine lv_aload_n hx hb dX3_tried_12 rfl (lv_at hl 2 rfl) ?_
      refine va_get (C := RX3) (T := TX3) (N := 21) (ci := 3) hx hb hts hi_X3 hown hK hP (0) (rfl) rfl 9 (by decide) (hts (.fieldLink RX3 54 "GroupSeatsModel" "bookings" "I") (by decide +kernel)) (fun _ h9 => h9) rfl dX3_tried_13 ?_
      refine lv_bipush (v := 40) hx hb dX3_tried_16 (by decide) ?_
      refine lv_icmp_ge (tgt := 95) hx hb dX3_tried_18 (by decide) (fun c18 => ?_) (fun c18 => ?_)
      · refine lv_iload_n hx hb dX3_tried_95 rfl (lv_at hl 1 rfl) ?_
        exact g_iret hx hb hr hlocks (Nat.le_of_ble_eq_true rfl) (Nat.le_of_ble_eq_true rfl) hK hP hD hS dX3_tried_96 (by rw [tryA_fullAll (fun q => absurd c18 (nI_ge (b := 40) q (by decide)))] at hF1 hF2; simp only at hF1 hF2; exact ⟨by rw [← hF1]; congr 1; omega, ho, ba, se, ta, wa, pe, lt, le, wl, fd, by rw [← hF1, ← hF2, hlen], by rw [← hF2]; exact hMS, by rw [← hF1]; exact hQ⟩)
      · have hBl : B < 40 := Nat.lt_of_not_le (fun q => c18 (nI_le (a := 40) q (by omega)))
        refine lv_aload_n hx hb dX3_tried_21 rfl (lv_at hl 2 rfl) ?_
        refine lv_aload_n hx hb dX3_tried_22 rfl (lv_at hl 2 rfl) ?_
        refine va_get (C := RX3) (T := TX3) (N := 21) (ci := 3) hx hb hts hi_X3 hown hK hP (0) (rfl) rfl 13 (by decide) (hts (.fieldLink RX3 41 "GroupSeatsModel" "lengths" "[I") (by decide +kernel)) (fun _ h9 => h9) rfl dX3_tried_23 ?_
        refine lv_iload_n hx hb dX3_tried_26 rfl (lv_at hl 0 rfl) ?_
        refine va_iald hx hb hK hP (11) 0 (rfl) rfl (vp_in_nI (show k0 < 8 by omega) (by decide)) dX3_tried_27 ?_
        refine va_put (C := RX3) (T := TX3) (N := 21) (ci := 3) (ty := .int) hx hb hts hi_X3 tyX3 tyX3_ok nmX3 hown hK hP hD hS (0) (rfl) rfl 18 (by decide) (hts (.fieldLink RX3 68 "GroupSeatsModel" "wayLong" "I") (by decide +kernel)) (fun _ h9 => h9) rfl (by decide +kernel) rfl rfl (Nat.le_of_ble_eq_true rfl) dX3_tried_28 (fun H locs hP hD hS => ?_)
        have hP : va_P D vwCl (mW K ma th ll (nI B) (nI wt) (nI mh) fl (le (nI k0).toNatClampNeg) fd op st zs ho ba se lx cn pe lt le wa ta) H := hP
        have hD : va_D A (mW K ma th ll (nI B) (nI wt) (nI mh) fl (le (nI k0).toNatClampNeg) fd op st zs ho ba se lx cn pe lt le wa ta) := hD
        rw [nI_clamp (n := k0) (by omega), hPa.2.1] at hP hD
        refine lv_iconst (v := 0) hx hb dX3_tried_31 (by decide) ?_
        refine lv_istore_n (lv' := [(3, .int _), (2, .int _), (1, .int _), (0, .ref _)]) hx hb dX3_tried_32 rfl hl (by decide) rfl (fun ls hl => ?_)
        refine lp_tr1 (n := P.2.length) (k0 := k0) hPi.1 (by omega) I0 ?_ P.2.length 0 _ _ (by omega) (by rw [cpW_0]; exact hP) (by rw [cpW_0]; exact hD) hS ls (lv_sub hl [0, 1, 2, 3] rfl)
        intro H locs hP hD hS ls hl
        refine lv_aload_n hx hb dX3_tried_64 rfl (lv_at hl 2 rfl) ?_
        refine lv_aload_n hx hb dX3_tried_65 rfl (lv_at hl 2 rfl) ?_
        refine va_get (C := RX3) (T := TX3) (N := 21) (ci := 3) hx hb hts hi_X3 hown hK hP (0) (rfl) rfl 11 (by decide) (hts (.fieldLink RX3 35 "GroupSeatsModel" "people" "[I") (by decide +kernel)) (fun _ h9 => h9) rfl dX3_tried_66 ?_
        refine lv_iload_n hx hb dX3_tried_69 rfl (lv_at hl 0 rfl) ?_
        refine va_iald hx hb hK hP (9) 0 (rfl) rfl (vp_in_nI (show k0 < 8 by omega) (by decide)) dX3_tried_70 ?_
        refine lv_iconst (v := 2) hx hb dX3_tried_71 (by decide) ?_
        rw [nI_clamp (n := k0) (by omega), hPa.1]
        refine g_calli (va_runV (As := [.int _, .int _]) (rest := []) ⟨hx, hb, hml, hown, hts⟩ (m_goes l D K ma op st zs ho ba se lx cn pe lt le (cpW lt k0 wa P.2.length) ta th ll (nI wt) fl fd z sd ow B mh P.1 2 P.2 _ hz hLP (by omega) (by omega) (OR_ne hOR (by omega)) (by omega) hMS) (cwV 2 hts gX3_tried_X3_goes rfl rfl rfl (by decide +kernel) ⟨(Nat.le_of_ble_eq_true rfl), (Nat.le_of_ble_eq_true rfl)⟩) (g_preV hK hP hD (ci := 3) (q0 := 0) rfl (rfl)) rfl rfl hl.1 rfl (lv_room (Nat.le_of_ble_eq_true rfl)) dX3_tried_72 ⟨Nat.zero_le _, Nat.zero_le _⟩) hD hS hA (fun r72 wv H locs hw hP hD hS => ?_)
        have hGm := goA_mh (z := z) (sd := sd) (b := nI B) (n := P.1) (mo := 2) P.2 P.1 0 ow mh hmh6 (by have := hPi.1; omega)
        have hGV := goA_GV (sd := sd) (n := P.1) (mo := 2) (nI_ne8 (B := B) (by omega)) hz P.2 P.1 0 ow mh GV_0
        by_cases hG : (goA z sd (nI B) P.1 2 P.2 P.1 0 ow mh).1 = 0
        · obtain ⟨er, ho1, ba1, se1, ta1, fd1, ew, hMS1⟩ := hw.1 hG
          rw [ew] at hP hD
          rw [er]
          refine lv_if_lt (tgt := 89) hx hb dX3_tried_75 (by decide) (fun c75 => ?_) (fun c75 => ?_)
          · exact absurd c75 (nI_pos (by omega))
          · refine lv_aload_n hx hb dX3_tried_78 rfl (lv_at hl 2 rfl) ?_
            refine lv_iload_n hx hb dX3_tried_79 rfl (lv_at hl 0 rfl) ?_
            refine g_callv (va_runV (As := [.int _]) (rest := []) ⟨hx, hb, hml, hown, hts⟩ (m_removed l D K ma op st zs ho1 ba1 se1 lx cn pe lt le (cpW lt k0 wa P.2.length) ta1 th ll (nI (B + 1)) (nI (goA z sd (nI B) P.1 2 P.2 P.1 0 ow mh).2.2) fl (nI P.2.length) fd1 wt k0 _ hwt8 (by omega)) (cwV 1 hts gX3_tried_X3_removed rfl rfl rfl (by decide +kernel) ⟨(Nat.le_of_ble_eq_true rfl), (Nat.le_of_ble_eq_true rfl)⟩) (g_preV hK hP hD (ci := 3) (q0 := 0) rfl (rfl)) rfl rfl hl.1 rfl (lv_room (Nat.le_of_ble_eq_true rfl)) dX3_tried_80 ⟨Nat.zero_le _, Nat.zero_le _⟩) hD hS hA (fun wv H locs hw hP hD hS => ?_)
            rw [hw] at hP hD
            refine lv_iinc (lv' := [(1, .int _), (2, .int _), (0, .ref _)]) hx hb dX3_tried_83 hl (k := 1) rfl rfl (by decide) rfl (fun ls hl => ?_)
            refine lv_goto (tgt := 4) hx hb dX3_tried_86 (by decide) ?_
            rw [g_inc] at hl
            rw [tryA_got (by omega) hG] at hF1 hF2
            have hQ2 := MQr_erase (k := k0) (by omega) hQ
            rw [List.eraseIdx_append_of_length_le (by omega), show k0 - St.length = 0 by omega, List.eraseIdx_cons_zero, hlen] at hQ2
            have hlen2 : (St ++ ps).length = wt - 1 := by rw [List.length_append] at hlen ⊢; rw [List.length_cons] at hlen; omega
            exact ih k0 (dn + 1) (B + 1) (goA z sd (nI B) P.1 2 P.2 P.1 0 ow mh).2.2 (wt - 1) St _ _ _ _ _ _ _ _ _ _ _ fl H locs hSl (by omega) hlen2 (by omega) (by omega) hGm (OR_GV hOR hGV) hMS1 hQ2 hF1 hF2 hP hD hS ls (lv_sub hl [1, 0, 2] rfl)
        · obtain ⟨er, ho1, ba1, se1, ta1, fd1, ew, hMS1⟩ := hw.2 hG
          rw [ew] at hP hD
          rw [er]
          refine lv_if_lt (tgt := 89) hx hb dX3_tried_75 (by decide) (fun c75 => ?_) (fun c75 => ?_)
          · refine lv_iinc (lv' := [(2, .int _), (1, .int _), (0, .ref _)]) hx hb dX3_tried_89 hl (k := 0) rfl rfl (by decide) rfl (fun ls hl => ?_)
            refine lv_goto (tgt := 4) hx hb dX3_tried_92 (by decide) ?_
            rw [g_inc] at hl
            rw [tryA_not (by omega) hG] at hF1 hF2
            have hap : St ++ P :: ps = (St ++ [P]) ++ ps := by simp
            rw [hap] at hQ hlen
            exact ih (k0 + 1) dn B (goA z sd (nI B) P.1 2 P.2 P.1 0 ow mh).2.2 wt (St ++ [P]) _ _ _ _ _ _ _ _ _ _ _ (fl + 1) H locs (by simp; omega) (by omega) hlen (by omega) (by omega) hGm hOR hMS1 hQ (by rw [← hF1]; simp) hF2 hP hD hS ls (lv_sub hl [0, 1, 2] rfl)
          · exact absurd (by rcases goA_neg (z := z) (sd := sd) (b := nI B) (n := P.1) (mo := 2) P.2 P.1 0 ow mh with q | q | q | q <;> first | exact absurd q hG | (rw [q]; decide)) c75
set_option maxHeartbeats 4000000 in
set_option maxRecDepth 100000 in
/-- the model: tried -/
theorem m_tried (l : Launch) (D : va_G) (K : gCl) (ma : Nat → Nat) (op st zs ho ba se lx cn pe lt le wa ta : Nat → Int32) (th ll fl wl fd : Int32) (z : Nat → Nat) (sd : Nat → Int32) (ow : Nat → Nat → Int32) (B mh : Nat) (q : List Pty) (sz : Nat) (hz : ∀ r, r < 10 → z r ≤ 20) (hq8 : q.length ≤ 8) (hB40 : B ≤ 40) (hmh6 : mh ≤ 6) (hOR : OR z ow B) (hMS : MS z sd op st zs se ow) (hQ : MQr pe lt le q) : gMi l yX3_tried wsX3_tried ({ frames := 5, cells := 0, slots := 0, locals := 200 } : Room) D vwCl (gT K) [.ref (ma 0)] (mW K ma th ll (nI B) (nI q.length) (nI mh) fl wl fd op st zs ho ba se lx cn pe lt le wa ta) sz (mRo K ma z sd th ll op st zs lx cn q.length (tryA z sd q B ow mh fl)) 0 0 := by
  refine g_of (cc := cX3_tried) (maxL := 4) (ret := (some .int)) (Qc := fun A => va_Qi (mRo K ma z sd th ll op st zs lx cn q.length (tryA z sd q B ow mh fl)) (gB D vwCl (gT K) A) A) (by decide) rfl (Nat.le_of_ble_eq_true rfl) ?_
  intro p e s m below meth c A ls I hl
  have I0 := I
  obtain ⟨hx, hb, hr, hml, hown, hts, hlocks, hnm, hA, hK, hP, hD, hS⟩ := I
  have hown : s.vm.findClass RX3 = some m.cls := hown
  have hl : lv_has ls 4 [(0, .ref (ma 0))] := hl
  have hi_X3 : ∀ w ∈ u_ws RX3 TX3 21, w ∈ wsX3_tried := by decide +kernel
  refine lv_iconst (v := 0) hx hb dX3_tried_0 (by decide) ?_
  refine lv_istore_n (lv' := [(1, .int _), (0, .ref _)]) hx hb dX3_tried_1 rfl hl (by decide) rfl (fun ls hl => ?_)
  refine lv_iconst (v := 0) hx hb dX3_tried_2 (by decide) ?_
  refine lv_istore_n (lv' := [(2, .int _), (1, .int _), (0, .ref _)]) hx hb dX3_tried_3 rfl hl (by decide) rfl (fun ls hl => ?_)
  exact lp_tr2 hz hq8 I0 q 0 0 B mh q.length [] ho ba se ta wa pe lt le wl fd ow fl _ _ rfl (by omega) rfl hq8 hB40 hmh6 hOR hMS hQ rfl rfl hP hD hS ls (lv_sub hl [0, 1, 2] rfl)
