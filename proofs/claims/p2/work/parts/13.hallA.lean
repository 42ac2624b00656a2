/-! THE HALL at large: a: addresses (a 0: the four first cells, a 1 rows, a 2 owners, a 3 parties, a 4 numbers) -/
def hW (K : gCl) (a : Nat → Nat → Nat) (z : Nat → Nat) (sd ho bk : Nat → Int32) (ow : Nat → Nat → Int32) (pl pn pm : Nat → Int32) (nm : Nat → Nat → Int32) (cn : Nat → Int32) (co : Nat) (qu : Nat → Nat) (B wt mh fl : Int32) : va_W :=
  gsW K (a 0 0) (a 0 1) (a 0 2) (a 0 3) (a 1) (a 2) (a 3) (a 4) (fun i => (nI (z i), sd i, ho i, bk i)) ow (fun j => (pl j, pn j, pm j)) nm cn co qu B wt mh fl
theorem va_up_id {α : Type} (f : Nat → α) (k : Nat) : va_up f k (f k) = f := by
  funext j
  by_cases h : j = k
  · subst h; simp [va_up]
  · simp [va_up, h]
theorem va_up_uu {α : Type} (f : Nat → α) (k : Nat) (v w : α) : va_up (va_up f k v) k w = va_up f k w := by
  funext j
  by_cases h : j = k
  · subst h; simp [va_up]
  · simp [va_up, h]
section HW
variable {K : gCl} {a : Nat → Nat → Nat} {z : Nat → Nat} {sd ho bk : Nat → Int32} {ow : Nat → Nat → Int32} {pl pn pm : Nat → Int32} {nm : Nat → Nat → Int32} {cn : Nat → Int32} {co : Nat} {qu : Nat → Nat} {B wt mh fl : Int32}
theorem hW_row {j : Nat} (hj : j < 10) : (hW K a z sd ho bk ow pl pn pm nm cn co qu B wt mh fl)[2 * j + 4]? = some (a 1 j, gRow (a 2 j) (nI (z j)) (sd j) (ho j) (bk j)) := gsW_row hj
theorem hW_own {j : Nat} (hj : j < 10) : (hW K a z sd ho bk ow pl pn pm nm cn co qu B wt mh fl)[2 * j + 1 + 4]? = some (a 2 j, gArr K.1 20 (ow j)) := gsW_own hj
theorem hW_par {j : Nat} (hj : j < 9) : (hW K a z sd ho bk ow pl pn pm nm cn co qu B wt mh fl)[2 * j + 20 + 4]? = some (a 3 j, gPar (a 4 j) (pl j) (pn j) (pm j)) := gsW_par hj
theorem hW_num {j : Nat} (hj : j < 9) : (hW K a z sd ho bk ow pl pn pm nm cn co qu B wt mh fl)[2 * j + 1 + 20 + 4]? = some (a 4 j, gArr K.1 6 (nm j)) := gsW_num hj
theorem g_set4 {x0 x1 x2 x3 y : Nat × va_E} {t : va_W} {n : Nat} : (x0 :: x1 :: x2 :: x3 :: t).set (n + 4) y = x0 :: x1 :: x2 :: x3 :: t.set n y := rfl
theorem hW_setRow {i z' : Nat} {s' h' b' : Int32} (hi : i < 10) : (hW K a z sd ho bk ow pl pn pm nm cn co qu B wt mh fl).set (2 * i + 4) (a 1 i, gRow (a 2 i) (nI z') s' h' b') = hW K a (va_up z i z') (va_up sd i s') (va_up ho i h') (va_up bk i b') ow pl pn pm nm cn co qu B wt mh fl := by
  unfold hW gsW
  rw [g_set4, g2_set0 hi]
  congr 5
  apply congrArg (fun f => g2 10 f _)
  funext k
  by_cases h : k = i
  · subst h; simp [va_up]
  · simp [va_up, h]
theorem hW_setHo {i : Nat} {h' : Int32} (hi : i < 10) : (hW K a z sd ho bk ow pl pn pm nm cn co qu B wt mh fl).set (2 * i + 4) (a 1 i, gRow (a 2 i) (nI (z i)) (sd i) h' (bk i)) = hW K a z sd (va_up ho i h') bk ow pl pn pm nm cn co qu B wt mh fl := by
  rw [hW_setRow hi, va_up_id, va_up_id, va_up_id]
theorem hW_setBk {i : Nat} {h' : Int32} (hi : i < 10) : (hW K a z sd ho bk ow pl pn pm nm cn co qu B wt mh fl).set (2 * i + 4) (a 1 i, gRow (a 2 i) (nI (z i)) (sd i) (ho i) h') = hW K a z sd ho (va_up bk i h') ow pl pn pm nm cn co qu B wt mh fl := by
  rw [hW_setRow hi, va_up_id, va_up_id, va_up_id]
theorem hW_setOwn {i : Nat} {f : Nat → Int32} (hi : i < 10) : (hW K a z sd ho bk ow pl pn pm nm cn co qu B wt mh fl).set (2 * i + 1 + 4) (a 2 i, gArr K.1 20 f) = hW K a z sd ho bk (va_up ow i f) pl pn pm nm cn co qu B wt mh fl := by
  unfold hW gsW
  rw [g_set4, g2_set1 hi]
  congr 5
  apply congrArg (fun f => g2 10 _ f)
  funext k
  by_cases h : k = i
  · subst h; simp [va_up]
  · simp [va_up, h]
theorem g_skip4 {x0 x1 x2 x3 y : Nat × va_E} {f g : Nat → Nat × va_E} {t : va_W} {n : Nat} : (x0 :: x1 :: x2 :: x3 :: (g2 10 f g ++ t)).set (n + 20 + 4) y = x0 :: x1 :: x2 :: x3 :: (g2 10 f g ++ t.set n y) := by
  rw [g_set4, g2_setR (k := n) (by omega)]
theorem g2_set0' {n : Nat} {f g : Nat → Nat × va_E} {i : Nat} {x : Nat × va_E} (h : i < n) : (g2 n f g).set (2 * i) x = g2 n (va_up f i x) g := by
  have := g2_set0 (r := []) (f := f) (g := g) (x := x) h
  simpa using this
theorem g2_set1' {n : Nat} {f g : Nat → Nat × va_E} {i : Nat} {x : Nat × va_E} (h : i < n) : (g2 n f g).set (2 * i + 1) x = g2 n f (va_up g i x) := by
  have := g2_set1 (r := []) (f := f) (g := g) (x := x) h
  simpa using this
theorem hW_setPar {j : Nat} {l' n' m' : Int32} (hj : j < 9) : (hW K a z sd ho bk ow pl pn pm nm cn co qu B wt mh fl).set (2 * j + 20 + 4) (a 3 j, gPar (a 4 j) l' n' m') = hW K a z sd ho bk ow (va_up pl j l') (va_up pn j n') (va_up pm j m') nm cn co qu B wt mh fl := by
  unfold hW gsW
  rw [g_skip4, g2_set0' hj]
  congr 5
  apply congrArg (fun f => g2 9 f _)
  funext k
  by_cases h : k = j
  · subst h; simp [va_up]
  · simp [va_up, h]
theorem hW_setNum {j : Nat} {f : Nat → Int32} (hj : j < 9) : (hW K a z sd ho bk ow pl pn pm nm cn co qu B wt mh fl).set (2 * j + 1 + 20 + 4) (a 4 j, gArr K.1 6 f) = hW K a z sd ho bk ow pl pn pm (va_up nm j f) cn co qu B wt mh fl := by
  unfold hW gsW
  rw [g_skip4, g2_set1' hj]
  congr 5
  apply congrArg (fun f => g2 9 _ f)
  funext k
  by_cases h : k = j
  · subst h; simp [va_up]
  · simp [va_up, h]
end HW
/-- by what a party fails that gets to the rows rs of its list -/
def obsL (z : Nat → Nat) : List Nat → Int32
  | [] => -4
  | r :: _ => if r < 10 then (if z r = 0 then -5 else 0) else -6
/-- a party of n, with mode mo, goes on with the rows rs, w seats being wanted still, at place p: by what it fails (0: it doesn't), the owners, the most held -/
def goA (z : Nat → Nat) (sd : Nat → Int32) (b : Int32) (n : Nat) (mo : Int32) : List Nat → Nat → Nat → (Nat → Nat → Int32) → Nat → Int32 × (Nat → Nat → Int32) × Nat
  | [], w, _, ow, mh => (if w = 0 then 0 else if mo = 1 ∧ w < n then 0 else -4, ow, mh)
  | r :: rs, w, p, ow, mh => if w = 0 then (0, ow, mh) else if obsL z (r :: rs) = 0 then goA z sd b n mo rs (w - tkC (ow r) (z r) (sd r) w) (p + 1) (va_up ow r (tkF b (ow r) (z r) (sd r) w)) (max mh (p + 1)) else (if mo = 1 ∧ w < n then 0 else obsL z (r :: rs), ow, mh)
theorem goA_stop {z : Nat → Nat} {sd : Nat → Int32} {b : Int32} {n : Nat} {mo : Int32} {rs : List Nat} {w p : Nat} {ow : Nat → Nat → Int32} {mh : Nat} (hw : w ≠ 0) (ho : obsL z rs ≠ 0) : goA z sd b n mo rs w p ow mh = (if mo = 1 ∧ w < n then 0 else obsL z rs, ow, mh) := by
  cases rs with
  | nil => simp [goA, hw, obsL]
  | cons r rs => simp only [goA, if_neg hw, if_neg ho]
theorem goA_done {z : Nat → Nat} {sd : Nat → Int32} {b : Int32} {n : Nat} {mo : Int32} {rs : List Nat} {p : Nat} {ow : Nat → Nat → Int32} {mh : Nat} : goA z sd b n mo rs 0 p ow mh = (0, ow, mh) := by
  cases rs <;> simp [goA]
theorem obsL_cons {z : Nat → Nat} {r : Nat} {rs : List Nat} : obsL z (r :: rs) = if r < 10 then (if z r = 0 then -5 else 0) else -6 := rfl
theorem obs_ne {z : Nat → Nat} {rs : List Nat} (h : obsL z rs = 0) : ∃ r rs', rs = r :: rs' ∧ r < 10 ∧ z r ≠ 0 := by
  cases rs with
  | nil => exact absurd (show (-4 : Int32) = 0 from h) (by decide)
  | cons r rs =>
    refine ⟨r, rs, rfl, ?_⟩
    rw [obsL_cons] at h
    split at h
    · rename_i h1
      split at h
      · exact absurd h (by decide)
      · rename_i h2
        exact ⟨h1, h2⟩
    · exact absurd h (by decide)
/-- giving back restores the row -/
theorem gb_back {b : Int32} (hb : b ≠ -8) {f : Nat → Int32} {z : Nat} {sd : Int32} {w : Nat} : gbF (mkT f (z - tkS f z sd w) (tkS f z sd w) (tkN f z sd w) 0) (tkF b f z sd w) z = f := by
  funext j
  have hs := tkS_le f z sd w
  have hbits := mkT_bits hb (z - tkS f z sd w) (tkS f z sd w) (tkN f z sd w) f 0 (Nat.two_pow_pos _) j
  have hat := mkF_at b (z - tkS f z sd w) (tkS f z sd w) (tkN f z sd w) f j
  unfold gbF tkF
  split
  · rename_i h
    rcases hbits.mp h.2 with h1 | ⟨h1, _, _⟩
    · simp at h1
    · exact h1.symm
  · rename_i h
    rcases hat with h1 | ⟨h1, h2, h3, h4⟩
    · exact h1
    · exact absurd ⟨by omega, hbits.mpr (Or.inr ⟨h2, h3, h1⟩)⟩ h
theorem tk_pc {f : Nat → Int32} {z : Nat} {sd : Int32} {w : Nat} (hz : z ≤ 20) : pcN (mkT f (z - tkS f z sd w) (tkS f z sd w) (tkN f z sd w) 0) 20 = tkC f z sd w := by
  have hs := tkS_le f z sd w
  rw [mkT_pc f _ _ _ 0 20 (Nat.two_pow_pos _) (by omega), pcN_0]
  unfold tkC
  omega
theorem tk_lt {f : Nat → Int32} {z : Nat} {sd : Int32} {w : Nat} (hz : z ≤ 20) : mkT f (z - tkS f z sd w) (tkS f z sd w) (tkN f z sd w) 0 < 2 ^ 20 := by
  have hs := tkS_le f z sd w
  have := mkT_lt f (z - tkS f z sd w) (tkS f z sd w) (tkN f z sd w) 0 (Nat.two_pow_pos _)
  rw [show tkS f z sd w + (z - tkS f z sd w) = z by omega] at this
  exact Nat.lt_of_lt_of_le this (Nat.pow_le_pow_right (by decide) hz)
theorem g_max {x y : Nat} (hx : x < 2 ^ 31) (hy : y < 2 ^ 31) : (if nI x < nI y then nI y else nI x) = nI (max x y) := by
  by_cases h : x < y
  · rw [if_pos ((nI_ltI hx hy).mpr h), Nat.max_eq_right (by omega)]
  · rw [if_neg (fun q => h ((nI_ltI hx hy).mp q)), Nat.max_eq_left (by omega)]
/-- a party's numbers are the list L -/
def isL (f : Nat → Int32) (L : List Nat) : Prop := L.length ≤ 6 ∧ (∀ i, i < L.length → f i = nI (L.getD i 0)) ∧ ∀ r ∈ L, r ≤ 11
theorem isL_drop {f : Nat → Int32} {L : List Nat} (h : isL f L) {p r : Nat} {rs : List Nat} (e : L.drop p = r :: rs) : p < L.length ∧ f p = nI r ∧ L.drop (p + 1) = rs ∧ r ≤ 11 := by
  have hp : p < L.length := by
    rcases Nat.lt_or_ge p L.length with q | q
    · exact q
    · rw [List.drop_eq_nil_of_le q] at e; cases e
  have e2 : L.drop p = L[p] :: L.drop (p + 1) := List.drop_eq_getElem_cons hp
  rw [e2] at e
  injection e with e3 e4
  refine ⟨hp, ?_, e4, ?_⟩
  · rw [h.2.1 p hp, show L.getD p 0 = L[p] by simp [List.getD_eq_getElem?_getD, hp], e3]
  · rw [← e3]; exact h.2.2 _ (List.getElem_mem hp)
theorem isL_end {L : List Nat} {p : Nat} (e : L.drop p = []) : L.length ≤ p := by
  rcases Nat.lt_or_ge p L.length with q | q
  · rw [List.drop_eq_getElem_cons q] at e; cases e
  · exact q
set_option maxHeartbeats 4000000 in
set_option maxRecDepth 100000 in
/-- obstacleAt -/
theorem c_obstacleAt (l : Launch) (D : va_G) (K : gCl) (a : Nat → Nat → Nat) (z : Nat → Nat) (sd ho bk : Nat → Int32) (ow : Nat → Nat → Int32) (pl pn pm : Nat → Int32) (nm : Nat → Nat → Int32) (cn : Nat → Int32) (co : Nat) (qu : Nat → Nat) (B wt mh : Nat) (fl : Int32) (j p0 : Nat) (L : List Nat) (sz : Nat) (hj : j < 9) (hp6 : p0 ≤ 6) (hz : ∀ i, i < 10 → z i ≤ 20) (hlen : pl j = nI L.length) (hL : isL (nm j) L) : gMi l yX2_obstacleAt wsX2_obstacleAt ({ frames := 1, cells := 0, slots := 0, locals := 40 } : Room) D vwCl (gT K) [.ref (a 0 0), .ref (a 3 j), .int (nI p0)] (hW K a z sd ho bk ow pl pn pm nm cn co qu (nI B) (nI wt) (nI mh) fl) sz (fun r1 w1 => w1 = hW K a z sd ho bk ow pl pn pm nm cn co qu (nI B) (nI wt) (nI mh) fl ∧ r1 = obsL z (L.drop p0)) 0 0 := by
  refine g_of (cc := cX2_obstacleAt) (maxL := 4) (ret := (some .int)) (Qc := fun A => va_Qi (fun r1 w1 => w1 = hW K a z sd ho bk ow pl pn pm nm cn co qu (nI B) (nI wt) (nI mh) fl ∧ r1 = obsL z (L.drop p0)) (gB D vwCl (gT K) A) A) (by decide) rfl (Nat.le_of_ble_eq_true rfl) ?_
  intro p e s m below meth c A ls I hl
  have I0 := I
  obtain ⟨hx, hb, hr, hml, hown, hts, hlocks, hnm, hA, hK, hP, hD, hS⟩ := I
  have hown : s.vm.findClass RX2 = some m.cls := hown
  have hl : lv_has ls 4 [(0, .ref (a 0 0)), (1, .ref (a 3 j)), (2, .int (nI p0))] := hl
  have hi_X2 : ∀ w ∈ u_ws RX2 TX2 8, w ∈ wsX2_obstacleAt := by decide +kernel
  have hi_X1 : ∀ w ∈ u_ws RX1 TX1 5, w ∈ wsX2_obstacleAt := by decide +kernel
  have hi_X0 : ∀ w ∈ u_ws RX0 TX0 4, w ∈ wsX2_obstacleAt := by decide +kernel
  have hL6 := hL.1
  refine lv_iload_n hx hb dX2_obstacleAt_0 rfl (lv_at hl 2 rfl) ?_
  refine lv_aload_n hx hb dX2_obstacleAt_1 rfl (lv_at hl 1 rfl) ?_
  refine va_get (C := RX0) (T := TX0) (N := 4) (ci := 0) hx hb hts hi_X0 hown hK hP (2 * j + 20 + 4) (hW_par hj) rfl 1 (by decide) (hts (.fieldLink RX2 59 "GroupSeats$Party" "listed" "I") (by decide +kernel)) (fun _ h9 => h9) rfl dX2_obstacleAt_2 ?_
  refine lv_icmp_lt (tgt := 11) hx hb dX2_obstacleAt_5 (by decide) (fun c5 => ?_) (fun c5 => ?_)
  · obtain ⟨r, rs, ers⟩ : ∃ r rs, L.drop p0 = r :: rs := by
      cases e : L.drop p0 with
      | nil => have := isL_end e; rw [hlen] at c5; exact absurd ((nI_ltI (by omega) (by omega)).mp c5) (by omega)
      | cons r rs => exact ⟨r, rs, rfl⟩
    obtain ⟨hp1, hp2, hp3, hp4⟩ := isL_drop hL ers
    refine lv_aload_n hx hb dX2_obstacleAt_11 rfl (lv_at hl 1 rfl) ?_
    refine va_get (C := RX0) (T := TX0) (N := 4) (ci := 0) hx hb hts hi_X0 hown hK hP (2 * j + 20 + 4) (hW_par hj) rfl 0 (by decide) (hts (.fieldLink RX2 62 "GroupSeats$Party" "numbers" "[I") (by decide +kernel)) (fun _ h9 => h9) rfl dX2_obstacleAt_12 ?_
    refine lv_iload_n hx hb dX2_obstacleAt_15 rfl (lv_at hl 2 rfl) ?_
    refine va_iald hx hb hK hP (2 * j + 1 + 20 + 4) 0 (hW_num hj) rfl (vp_in_nI (show p0 < 6 by omega) (by decide)) dX2_obstacleAt_16 ?_
    rw [nI_clamp (by omega), hp2]
    refine lv_istore_n (lv' := [(3, .int _), (0, .ref _), (1, .ref _), (2, .int _)]) hx hb dX2_obstacleAt_17 rfl hl (by decide) rfl (fun ls hl => ?_)
    refine lv_iload_n hx hb dX2_obstacleAt_18 rfl (lv_at hl 0 rfl) ?_
    refine g_calli (va_runS (As := [.int _]) (rest := []) ⟨hx, hb, hml, hown, hts⟩ (c_isRow l D K _ _ _) (va_cwS 1 hts gX2_obstacleAt_X2_isRow rfl rfl rfl (by decide +kernel) ⟨(Nat.le_of_ble_eq_true rfl), (Nat.le_of_ble_eq_true rfl)⟩) (g_preS hK hP hD) rfl rfl hl.1 rfl (lv_room (Nat.le_of_ble_eq_true rfl)) dX2_obstacleAt_19 ⟨Nat.zero_le _, Nat.zero_le _⟩) hD hS hA (fun r19 wv H locs hw hP hD hS => ?_)
    obtain ⟨ew, e19⟩ := hw
    rw [ew] at hP hD
    refine lv_if_ne (tgt := 28) hx hb dX2_obstacleAt_22 (by decide) (fun c22 => ?_) (fun c22 => ?_)
    · have hr10 : r < 10 := (nI_ltI (b := 10) (by omega) (by decide)).mp (Classical.not_not.mp (fun q => c22 (e19.mpr (fun h => q h.2))))
      refine lv_aload_n hx hb dX2_obstacleAt_28 rfl (lv_at hl 1 rfl) ?_
      refine va_get (C := RX2) (T := TX2) (N := 8) (ci := 2) hx hb hts hi_X2 hown hK hP (0) (rfl) rfl 0 (by decide) (hts (.fieldLink RX2 11 "GroupSeats" "rows" "[LGroupSeats$Row;") (by decide +kernel)) (fun _ h9 => h9) rfl dX2_obstacleAt_29 ?_
      refine lv_iload_n hx hb dX2_obstacleAt_32 rfl (lv_at hl 0 rfl) ?_
      refine g_aldq hx hb hK hP (1) 2 (rfl) rfl (vp_in_nI hr10 (by decide)) (gRf_at hr10 (by decide)) dX2_obstacleAt_33 ?_
      refine g_calli (va_runV (As := []) (rest := []) ⟨hx, hb, hml, hown, hts⟩ (c_isOpen l D K _ (a 1 r) (a 2 r) (2 * r + 4) (nI (z r)) (sd r) (ho r) (bk r) _ (hW_row hr10)) (cwV 0 hts gX2_obstacleAt_X1_isOpen rfl rfl rfl (by decide +kernel) ⟨(Nat.le_of_ble_eq_true rfl), (Nat.le_of_ble_eq_true rfl)⟩) (g_preV hK hP hD (ci := 1) (q0 := 2 * r + 4) rfl (hW_row hr10)) rfl rfl hl.1 rfl (lv_room (Nat.le_of_ble_eq_true rfl)) dX2_obstacleAt_34 ⟨Nat.zero_le _, Nat.zero_le _⟩) hD hS hA (fun r34 wv H locs hw hP hD hS => ?_)
      obtain ⟨ew, e34⟩ := hw
      rw [ew] at hP hD
      refine lv_if_eq (tgt := 44) hx hb dX2_obstacleAt_37 (by decide) (fun c37 => ?_) (fun c37 => ?_)
      · refine lv_bipush (v := -5) hx hb dX2_obstacleAt_44 (by decide) ?_
        exact g_iret hx hb hr hlocks (Nat.le_of_ble_eq_true rfl) (Nat.le_of_ble_eq_true rfl) hK hP hD hS dX2_obstacleAt_46 (⟨rfl, by rw [ers]; rw [obsL_cons, if_pos hr10, if_pos (Classical.not_not.mp (fun q => e34.mp c37 (by rw [show (0 : Int32) = nI 0 from rfl]; exact nI_lt (by omega) (by have := hz r hr10; omega))))]⟩)
      · refine lv_iconst (v := 0) hx hb dX2_obstacleAt_40 (by decide) ?_
        refine lv_goto (tgt := 46) hx hb dX2_obstacleAt_41 (by decide) ?_
        exact g_iret hx hb hr hlocks (Nat.le_of_ble_eq_true rfl) (Nat.le_of_ble_eq_true rfl) hK hP hD hS dX2_obstacleAt_46 (⟨rfl, by rw [ers]; rw [obsL_cons, if_pos hr10, if_neg (fun q => c37 (e34.mpr (by rw [q]; decide)))]⟩)
    · refine lv_bipush (v := -6) hx hb dX2_obstacleAt_25 (by decide) ?_
      exact g_iret hx hb hr hlocks (Nat.le_of_ble_eq_true rfl) (Nat.le_of_ble_eq_true rfl) hK hP hD hS dX2_obstacleAt_27 (⟨rfl, by rw [ers]; rw [obsL_cons, if_neg]; intro q; exact e19.mp c22 ⟨nI_pos' (by omega), nI_lt (b := 10) q (by decide)⟩⟩)
  · refine lv_bipush (v := -4) hx hb dX2_obstacleAt_8 (by decide) ?_
    exact g_iret hx hb hr hlocks (Nat.le_of_ble_eq_true rfl) (Nat.le_of_ble_eq_true rfl) hK hP hD hS dX2_obstacleAt_10 (⟨rfl, by rw [List.drop_eq_nil_of_le (by rw [hlen] at c5; exact Nat.le_of_not_lt (fun q => c5 (nI_lt q (by omega))))]; rfl⟩)
