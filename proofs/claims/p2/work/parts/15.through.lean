abbrev Pty : Type := Nat × List Nat
theorem goA_mh {z : Nat → Nat} {sd : Nat → Int32} {b : Int32} {n : Nat} {mo : Int32} : ∀ (rs : List Nat) (w p : Nat) (ow : Nat → Nat → Int32) (mh : Nat), mh ≤ 6 → p + rs.length ≤ 6 → (goA z sd b n mo rs w p ow mh).2.2 ≤ 6
  | [], w, p, ow, mh, h, _ => h
  | r :: rs, w, p, ow, mh, h, hp => by
    rw [List.length_cons] at hp
    simp only [goA]
    split
    · exact h
    · split
      · exact goA_mh rs _ (p + 1) _ _ (by omega) (by omega)
      · exact h
theorem obs_neg {z : Nat → Nat} (rs : List Nat) : obsL z rs = 0 ∨ obsL z rs = -4 ∨ obsL z rs = -5 ∨ obsL z rs = -6 := by
  cases rs with
  | nil => exact Or.inr (Or.inl rfl)
  | cons r rs =>
    rw [obsL_cons]
    split
    · split
      · exact Or.inr (Or.inr (Or.inl rfl))
      · exact Or.inl rfl
    · exact Or.inr (Or.inr (Or.inr rfl))
theorem goA_neg {z : Nat → Nat} {sd : Nat → Int32} {b : Int32} {n : Nat} {mo : Int32} : ∀ (rs : List Nat) (w p : Nat) (ow : Nat → Nat → Int32) (mh : Nat), (goA z sd b n mo rs w p ow mh).1 = 0 ∨ (goA z sd b n mo rs w p ow mh).1 = -4 ∨ (goA z sd b n mo rs w p ow mh).1 = -5 ∨ (goA z sd b n mo rs w p ow mh).1 = -6
  | [], w, p, ow, mh => by
    simp only [goA]
    split
    · exact Or.inl rfl
    · split
      · exact Or.inl rfl
      · exact Or.inr (Or.inl rfl)
  | r :: rs, w, p, ow, mh => by
    simp only [goA]
    split
    · exact Or.inl rfl
    · split
      · exact goA_neg rs _ _ _ _
      · simp only
        split
        · exact Or.inl rfl
        · exact obs_neg (r :: rs)
/-- those that wait are tried, each once and in order: who stays, bookings, owners, the most held, failures -/
def tryA (z : Nat → Nat) (sd : Nat → Int32) : List Pty → Nat → (Nat → Nat → Int32) → Nat → Int32 → List Pty × Nat × (Nat → Nat → Int32) × Nat × Int32
  | [], B, ow, mh, fl => ([], B, ow, mh, fl)
  | P :: ps, B, ow, mh, fl =>
    if B < 40 then
      (if (goA z sd (nI B) P.1 2 P.2 P.1 0 ow mh).1 = 0 then tryA z sd ps (B + 1) (goA z sd (nI B) P.1 2 P.2 P.1 0 ow mh).2.1 (goA z sd (nI B) P.1 2 P.2 P.1 0 ow mh).2.2 fl
       else (P :: (tryA z sd ps B ow (goA z sd (nI B) P.1 2 P.2 P.1 0 ow mh).2.2 (fl + 1)).1, (tryA z sd ps B ow (goA z sd (nI B) P.1 2 P.2 P.1 0 ow mh).2.2 (fl + 1)).2))
    else (P :: (tryA z sd ps B ow mh fl).1, (tryA z sd ps B ow mh fl).2)
theorem tryA_full {z : Nat → Nat} {sd : Nat → Int32} {P : Pty} {ps : List Pty} {B : Nat} {ow : Nat → Nat → Int32} {mh : Nat} {fl : Int32} (h : ¬ B < 40) : tryA z sd (P :: ps) B ow mh fl = (P :: (tryA z sd ps B ow mh fl).1, (tryA z sd ps B ow mh fl).2) := by
  simp only [tryA, if_neg h]
theorem tryA_got {z : Nat → Nat} {sd : Nat → Int32} {P : Pty} {ps : List Pty} {B : Nat} {ow : Nat → Nat → Int32} {mh : Nat} {fl : Int32} (h : B < 40) (hg : (goA z sd (nI B) P.1 2 P.2 P.1 0 ow mh).1 = 0) : tryA z sd (P :: ps) B ow mh fl = tryA z sd ps (B + 1) (goA z sd (nI B) P.1 2 P.2 P.1 0 ow mh).2.1 (goA z sd (nI B) P.1 2 P.2 P.1 0 ow mh).2.2 fl := by
  simp only [tryA, if_pos h, if_pos hg]
theorem tryA_not {z : Nat → Nat} {sd : Nat → Int32} {P : Pty} {ps : List Pty} {B : Nat} {ow : Nat → Nat → Int32} {mh : Nat} {fl : Int32} (h : B < 40) (hg : ¬ (goA z sd (nI B) P.1 2 P.2 P.1 0 ow mh).1 = 0) : tryA z sd (P :: ps) B ow mh fl = (P :: (tryA z sd ps B ow (goA z sd (nI B) P.1 2 P.2 P.1 0 ow mh).2.2 (fl + 1)).1, (tryA z sd ps B ow (goA z sd (nI B) P.1 2 P.2 P.1 0 ow mh).2.2 (fl + 1)).2) := by
  simp only [tryA, if_pos h, if_neg hg]
/-- party j is P, and would wait -/
def PR (pl pn pm : Nat → Int32) (nm : Nat → Nat → Int32) (j : Nat) (P : Pty) : Prop := pl j = nI P.2.length ∧ pn j = nI P.1 ∧ pm j = 2 ∧ isL (nm j) P.2 ∧ 1 ≤ P.1 ∧ P.1 ≤ 60
def PQ (pl pn pm : Nat → Int32) (nm : Nat → Nat → Int32) (qu : Nat → Nat) (off : Nat) (ps : List Pty) : Prop := ∀ (i : Nat) (P : Pty), ps[i]? = some P → PR pl pn pm nm (qu (off + i)) P
/-- nine parties: the coming one, and the eight of the queue -/
def PM (qu : Nat → Nat) (co : Nat) : Prop := (∀ i, i < 8 → qu i < 9) ∧ co < 9 ∧ (∀ i k, i < 8 → k < 8 → qu i = qu k → i = k) ∧ ∀ i, i < 8 → qu i ≠ co
theorem PQ_tail {pl pn pm : Nat → Int32} {nm : Nat → Nat → Int32} {qu : Nat → Nat} {off : Nat} {P : Pty} {ps : List Pty} (h : PQ pl pn pm nm qu off (P :: ps)) : PQ pl pn pm nm qu (off + 1) ps := fun i Q hi => by
  rw [show off + 1 + i = off + (i + 1) by omega]
  exact h (i + 1) Q hi
def swp (qu : Nat → Nat) (k s : Nat) : Nat → Nat := va_up (va_up qu k (qu s)) s (qu k)
theorem swp_s (qu : Nat → Nat) (k s : Nat) : swp qu k s s = qu k := by simp [swp, va_up]
theorem swp_ne {qu : Nat → Nat} {k s i : Nat} (h1 : i ≠ k) (h2 : i ≠ s) : swp qu k s i = qu i := by simp [swp, va_up, h1, h2]
theorem swp_k {qu : Nat → Nat} {k s : Nat} : swp qu k s k = qu s := by
  by_cases h : k = s
  · subst h; simp [swp, va_up]
  · simp [swp, va_up, h]
theorem PM_swp {qu : Nat → Nat} {co k s : Nat} (h : PM qu co) (hk : k < 8) (hs : s < 8) : PM (swp qu k s) co := by
  obtain ⟨h1, h2, h3, h4⟩ := h
  have v : ∀ i, i < 8 → ∃ i', i' < 8 ∧ swp qu k s i = qu i' ∧ (i = k → i' = s) ∧ (i = s → i' = k) ∧ (i ≠ k → i ≠ s → i' = i) := fun i hi => by
    by_cases e1 : i = s
    · subst e1
      exact ⟨k, hk, swp_s _ _ _, fun q => q.symm, fun _ => rfl, fun _ q => absurd rfl q⟩
    · by_cases e2 : i = k
      · subst e2
        exact ⟨s, hs, swp_k, fun _ => rfl, fun q => absurd q e1, fun q => absurd rfl q⟩
      · exact ⟨i, hi, swp_ne e2 e1, fun q => absurd q e2, fun q => absurd q e1, fun _ _ => rfl⟩
  refine ⟨fun i hi => ?_, h2, fun i j hi hj e => ?_, fun i hi => ?_⟩
  · obtain ⟨i', a, b, _⟩ := v i hi
    rw [b]; exact h1 i' a
  · obtain ⟨i', a, b, c1, c2, c3⟩ := v i hi
    obtain ⟨j', a', b', d1, d2, d3⟩ := v j hj
    rw [b, b'] at e
    have e := h3 i' j' a a' e
    by_cases x1 : i = k <;> by_cases x2 : i = s <;> by_cases y1 : j = k <;> by_cases y2 : j = s <;> simp_all
  · obtain ⟨i', a, b, _⟩ := v i hi
    rw [b]; exact h4 i' a
theorem hq_up {a : Nat → Nat → Nat} {qu : Nat → Nat} {k j : Nat} (hk : k < 8) : va_up (gRf 8 (fun i => a 3 (qu i))) (nI k).toNatClampNeg (some (a 3 j)) = gRf 8 (fun i => a 3 (va_up qu k j i)) := by
  rw [nI_clamp (by omega)]
  funext i
  by_cases h : i = k
  · subst h; simp [va_up, gRf, hk]
  · simp [va_up, gRf, h]
def gTo (K : gCl) (a : Nat → Nat → Nat) (z : Nat → Nat) (sd : Nat → Int32) (pl pn pm : Nat → Int32) (nm : Nat → Nat → Int32) (cn : Nat → Int32) (co : Nat) (qu : Nat → Nat) (B wt : Nat) (fl : Int32) (ow : Nat → Nat → Int32) (G : Int32 × (Nat → Nat → Int32) × Nat) : Int32 → va_W → Prop := fun r1 w1 =>
  (G.1 = 0 → r1 = nI B ∧ ∃ ho' bk' : Nat → Int32, w1 = hW K a z sd ho' bk' G.2.1 pl pn pm nm cn co qu (nI (B + 1)) (nI wt) (nI G.2.2) fl) ∧ (G.1 ≠ 0 → r1 = G.1 ∧ ∃ ho' bk' : Nat → Int32, w1 = hW K a z sd ho' bk' ow pl pn pm nm cn co qu (nI B) (nI wt) (nI G.2.2) (fl + 1))
set_option maxHeartbeats 4000000 in
set_option maxRecDepth 100000 in
/-- goThrough -/
theorem c_goThrough (l : Launch) (D : va_G) (K : gCl) (a : Nat → Nat → Nat) (z : Nat → Nat) (sd ho bk : Nat → Int32) (ow : Nat → Nat → Int32) (pl pn pm : Nat → Int32) (nm : Nat → Nat → Int32) (cn : Nat → Int32) (co : Nat) (qu : Nat → Nat) (B wt mh : Nat) (fl : Int32) (j n : Nat) (mo : Int32) (L : List Nat) (sz : Nat) (hj : j < 9) (hz : ∀ i, i < 10 → z i ≤ 20) (hlen : pl j = nI L.length) (hL : isL (nm j) L) (hn : pn j = nI n) (hn60 : n ≤ 60) (hmo : pm j = mo) (hB : B < 100) (hmh : mh ≤ 100) : gMi l yX2_goThrough wsX2_goThrough ({ frames := 10, cells := 0, slots := 0, locals := 320 } : Room) D vwCl (gT K) [.ref (a 0 0), .ref (a 3 j)] (hW K a z sd ho bk ow pl pn pm nm cn co qu (nI B) (nI wt) (nI mh) fl) sz (gTo K a z sd pl pn pm nm cn co qu B wt fl ow (goA z sd (nI B) n mo L n 0 ow mh)) 0 0 := by
  refine g_of (cc := cX2_goThrough) (maxL := 4) (ret := (some .int)) (Qc := fun A => va_Qi (gTo K a z sd pl pn pm nm cn co qu B wt fl ow (goA z sd (nI B) n mo L n 0 ow mh)) (gB D vwCl (gT K) A) A) (by decide) rfl (Nat.le_of_ble_eq_true rfl) ?_
  intro p e s m below meth c A ls I hl
  have I0 := I
  obtain ⟨hx, hb, hr, hml, hown, hts, hlocks, hnm, hA, hK, hP, hD, hS⟩ := I
  have hown : s.vm.findClass RX2 = some m.cls := hown
  have hl : lv_has ls 4 [(0, .ref (a 0 0)), (1, .ref (a 3 j))] := hl
  have hi_X2 : ∀ w ∈ u_ws RX2 TX2 8, w ∈ wsX2_goThrough := by decide +kernel
  have hi_X0 : ∀ w ∈ u_ws RX0 TX0 4, w ∈ wsX2_goThrough := by decide +kernel
  have hL6 := hL.1
  refine lv_aload_n hx hb dX2_goThrough_0 rfl (lv_at hl 0 rfl) ?_
  refine lv_aload_n hx hb dX2_goThrough_1 rfl (lv_at hl 1 rfl) ?_
  refine lv_iconst (v := 0) hx hb dX2_goThrough_2 (by decide) ?_
  refine lv_aload_n hx hb dX2_goThrough_3 rfl (lv_at hl 1 rfl) ?_
  refine va_get (C := RX0) (T := TX0) (N := 4) (ci := 0) hx hb hts hi_X0 hown hK hP (2 * j + 20 + 4) (hW_par hj) rfl 2 (by decide) (hts (.fieldLink RX2 69 "GroupSeats$Party" "size" "I") (by decide +kernel)) (fun _ h9 => h9) rfl dX2_goThrough_4 ?_
  rw [hn]
  refine g_calli (va_runV (As := [.ref _, .int _, .int _]) (rest := []) ⟨hx, hb, hml, hown, hts⟩ (c_goOn l D K a z sd pl pn pm nm cn co qu B wt fl j n mo L hj hz hlen hL hn hn60 hmo hB L 0 n mh ho bk ow _ rfl (by omega) hn60 hmh) (cwV 3 hts gX2_goThrough_X2_goOn rfl rfl rfl (by decide +kernel) ⟨by show L.length + 3 + 1 ≤ 10; omega, by show 8 + (8 + 11) + (100 + 30 * L.length) ≤ 320; omega⟩) (g_preV hK hP hD (ci := 2) (q0 := 0) rfl (rfl)) rfl rfl hl.1 rfl (lv_room (Nat.le_of_ble_eq_true rfl)) dX2_goThrough_7 ⟨Nat.zero_le _, Nat.zero_le _⟩) hD hS hA (fun r7 wv H locs hw hP hD hS => ?_)
  obtain ⟨er, ho2, bk2, ew⟩ := hw
  rw [ew] at hP hD
  refine lv_istore_n (lv' := [(2, .int _), (0, .ref _), (1, .ref _)]) hx hb dX2_goThrough_10 rfl hl (by decide) rfl (fun ls hl => ?_)
  refine lv_iload_n hx hb dX2_goThrough_11 rfl (lv_at hl 0 rfl) ?_
  refine lv_if_eq (tgt := 27) hx hb dX2_goThrough_12 (by decide) (fun c12 => ?_) (fun c12 => ?_)
  · rw [er] at c12
    rw [if_pos c12] at hP hD
    refine lv_aload_n hx hb dX2_goThrough_27 rfl (lv_at hl 1 rfl) ?_
    refine va_get (C := RX2) (T := TX2) (N := 8) (ci := 2) hx hb hts hi_X2 hown hK hP (0) (rfl) rfl 4 (by decide) (hts (.fieldLink RX2 66 "GroupSeats" "bookings" "I") (by decide +kernel)) (fun _ h9 => h9) rfl dX2_goThrough_28 ?_
    refine lv_istore_n (lv' := [(3, .int _), (2, .int _), (0, .ref _), (1, .ref _)]) hx hb dX2_goThrough_31 rfl hl (by decide) rfl (fun ls hl => ?_)
    refine lv_aload_n hx hb dX2_goThrough_32 rfl (lv_at hl 2 rfl) ?_
    refine lv_dup hx hb dX2_goThrough_33 rfl ?_
    refine va_get (C := RX2) (T := TX2) (N := 8) (ci := 2) hx hb hts hi_X2 hown hK hP (0) (rfl) rfl 4 (by decide) (hts (.fieldLink RX2 66 "GroupSeats" "bookings" "I") (by decide +kernel)) (fun _ h9 => h9) rfl dX2_goThrough_34 ?_
    refine lv_iconst (v := 1) hx hb dX2_goThrough_37 (by decide) ?_
    refine lv_iadd hx hb dX2_goThrough_38 ?_
    refine va_put (C := RX2) (T := TX2) (N := 8) (ci := 2) (ty := .int) hx hb hts hi_X2 tyX2 tyX2_ok nmX2 hown hK hP hD hS (0) (rfl) rfl 4 (by decide) (hts (.fieldLink RX2 66 "GroupSeats" "bookings" "I") (by decide +kernel)) (fun _ h9 => h9) rfl (by decide +kernel) rfl rfl (Nat.le_of_ble_eq_true rfl) dX2_goThrough_39 (fun H locs hP hD hS => ?_)
    have hP : va_P D vwCl (hW K a z sd ho2 bk2 (goA z sd (nI B) n mo L n 0 ow mh).2.1 pl pn pm nm cn co qu (nI B + 1) (nI wt) (nI (goA z sd (nI B) n mo L n 0 ow mh).2.2) fl) H := hP
    have hD : va_D A (hW K a z sd ho2 bk2 (goA z sd (nI B) n mo L n 0 ow mh).2.1 pl pn pm nm cn co qu (nI B + 1) (nI wt) (nI (goA z sd (nI B) n mo L n 0 ow mh).2.2) fl) := hD
    rw [nI_1 B] at hP hD
    refine lv_iload_n hx hb dX2_goThrough_42 rfl (lv_at hl 0 rfl) ?_
    exact g_iret hx hb hr hlocks (Nat.le_of_ble_eq_true rfl) (Nat.le_of_ble_eq_true rfl) hK hP hD hS dX2_goThrough_43 (⟨fun _ => ⟨rfl, ho2, bk2, rfl⟩, fun q => absurd c12 q⟩)
  · rw [er] at c12
    rw [if_neg c12] at hP hD
    refine lv_aload_n hx hb dX2_goThrough_15 rfl (lv_at hl 1 rfl) ?_
    refine lv_dup hx hb dX2_goThrough_16 rfl ?_
    refine va_get (C := RX2) (T := TX2) (N := 8) (ci := 2) hx hb hts hi_X2 hown hK hP (0) (rfl) rfl 7 (by decide) (hts (.fieldLink RX2 104 "GroupSeats" "failures" "I") (by decide +kernel)) (fun _ h9 => h9) rfl dX2_goThrough_17 ?_
    refine lv_iconst (v := 1) hx hb dX2_goThrough_20 (by decide) ?_
    refine lv_iadd hx hb dX2_goThrough_21 ?_
    refine va_put (C := RX2) (T := TX2) (N := 8) (ci := 2) (ty := .int) hx hb hts hi_X2 tyX2 tyX2_ok nmX2 hown hK hP hD hS (0) (rfl) rfl 7 (by decide) (hts (.fieldLink RX2 104 "GroupSeats" "failures" "I") (by decide +kernel)) (fun _ h9 => h9) rfl (by decide +kernel) rfl rfl (Nat.le_of_ble_eq_true rfl) dX2_goThrough_22 (fun H locs hP hD hS => ?_)
    have hP : va_P D vwCl (hW K a z sd ho2 bk2 ow pl pn pm nm cn co qu (nI B) (nI wt) (nI (goA z sd (nI B) n mo L n 0 ow mh).2.2) (fl + 1)) H := hP
    have hD : va_D A (hW K a z sd ho2 bk2 ow pl pn pm nm cn co qu (nI B) (nI wt) (nI (goA z sd (nI B) n mo L n 0 ow mh).2.2) (fl + 1)) := hD
    refine lv_iload_n hx hb dX2_goThrough_25 rfl (lv_at hl 0 rfl) ?_
    exact g_iret hx hb hr hlocks (Nat.le_of_ble_eq_true rfl) (Nat.le_of_ble_eq_true rfl) hK hP hD hS dX2_goThrough_26 (⟨fun q => absurd q c12, fun _ => ⟨er, ho2, bk2, rfl⟩⟩)
def tPo (K : gCl) (a : Nat → Nat → Nat) (z : Nat → Nat) (sd : Nat → Int32) (pl pn pm : Nat → Int32) (nm : Nat → Nat → Int32) (cn : Nat → Int32) (co : Nat) (wt : Nat) (F : List Pty × Nat × (Nat → Nat → Int32) × Nat × Int32) : Int32 → va_W → Prop := fun r1 w1 => r1 = nI (wt - F.1.length) ∧ ∃ (ho' bk' : Nat → Int32) (qu' : Nat → Nat), w1 = hW K a z sd ho' bk' F.2.2.1 pl pn pm nm cn co qu' (nI F.2.1) (nI F.1.length) (nI F.2.2.2.1) F.2.2.2.2 ∧ PM qu' co ∧ PQ pl pn pm nm qu' 0 F.1
theorem hW_setQu {K : gCl} {a : Nat → Nat → Nat} {z : Nat → Nat} {sd ho bk : Nat → Int32} {ow : Nat → Nat → Int32} {pl pn pm : Nat → Int32} {nm : Nat → Nat → Int32} {cn : Nat → Int32} {co : Nat} {qu : Nat → Nat} {B wt mh fl : Int32} {k j : Nat} (hk : k < 8) : (hW K a z sd ho bk ow pl pn pm nm cn co qu B wt mh fl).set 3 (a 0 3, gRef K.2.2.2 8 (va_up (gRf 8 (fun i => a 3 (qu i))) (nI k).toNatClampNeg (some (a 3 j)))) = hW K a z sd ho bk ow pl pn pm nm cn co (va_up qu k j) B wt mh fl := by
  rw [hq_up hk]
  rfl
set_option maxHeartbeats 4000000 in
set_option maxRecDepth 100000 in
theorem lp_try {p : Program} {l : Launch} {e : Env} {s : State} {m : MethodId} {args : Array Value} {below : List Frame} {meth : Method} {c : Code} {A : Nat → Prop} {D : va_G} {K : gCl} {ws0 : va_W} {a : Nat → Nat → Nat} {z : Nat → Nat} {sd : Nat → Int32} {pl pn pm : Nat → Int32} {nm : Nat → Nat → Int32} {cn : Nat → Int32} {co : Nat} {wt : Nat} {F : List Pty × Nat × (Nat → Nat → Int32) × Nat × Int32} (hz : ∀ i, i < 10 → z i ≤ 20) (hwt : wt ≤ 8)
    (I : gIn p s m meth c A yX2_tryThoseWaiting wsX2_tryThoseWaiting cX2_tryThoseWaiting 5 (some .int) args D vwCl (gT K) ws0)  :
    ∀ (ps : List Pty) (k s0 B mh : Nat) (St : List Pty) (ho bk : Nat → Int32) (qu : Nat → Nat) (ow : Nat → Nat → Int32) (fl : Int32) (H : Heap) (locs : List Loc), k + ps.length = wt → s0 ≤ k → St.length = s0 → B ≤ 40 → mh ≤ 6 → PM qu co → PQ pl pn pm nm qu 0 St → PQ pl pn pm nm qu k ps → St ++ (tryA z sd ps B ow mh fl).1 = F.1 → (tryA z sd ps B ow mh fl).2 = F.2 → va_P D vwCl (hW K a z sd ho bk ow pl pn pm nm cn co qu (nI B) (nI wt) (nI mh) fl) H → va_D A (hW K a z sd ho bk ow pl pn pm nm cn co qu (nI B) (nI wt) (nI mh) fl) → va_S A s.heap H locs →
    ∀ (ls : Array Slot), lv_has ls 5 [(2, .int (nI k)), (1, .int (nI s0)), (0, .ref (a 0 0))] →
    W p l e ({ frames := 11, cells := 0, slots := 0, locals := 350 } : Room) s m args below meth c H locs 0 0 (MQ below (va_Qi (tPo K a z sd pl pn pm nm cn co wt F) (gB D vwCl (gT K) A) A) args s 0 0 A) (F0 m 4 ls []) := by
  have I0 := I
  obtain ⟨hx, hb, hr, hml, hown, hts, hlocks, hnm, hA, hK, -, -, -⟩ := I
  have hown : s.vm.findClass RX2 = some m.cls := hown
  have hi_X2 : ∀ w ∈ u_ws RX2 TX2 8, w ∈ wsX2_tryThoseWaiting := by decide +kernel
  have hi_X0 : ∀ w ∈ u_ws RX0 TX0 4, w ∈ wsX2_tryThoseWaiting := by decide +kernel
  intro ps
  induction ps with
  | nil =>
    intro k s0 B mh St ho bk qu ow fl H locs hi hsk hSl hB40 hmh6 hM hSt hPs hF1 hF2 hP hD hS ls hl
    rw [List.length_nil] at hi
    have hst : F.1.length = s0 := by rw [← hF1]; simp [tryA, hSl]
    refine lv_iload_n hx hb dX2_tryThoseWaiting_4 rfl (lv_at hl 0 rfl) ?_
    refine lv_aload_n hx hb dX2_tryThoseWaiting_5 rfl (lv_at hl 2 rfl) ?_
    refine va_get (C := RX2) (T := TX2) (N := 8) (ci := 2) hx hb hts hi_X2 hown hK hP (0) (rfl) rfl 5 (by decide) (hts (.fieldLink RX2 77 "GroupSeats" "waiters" "I") (by decide +kernel)) (fun _ h9 => h9) rfl dX2_tryThoseWaiting_6 ?_
    refine lv_icmp_ge (tgt := 76) hx hb dX2_tryThoseWaiting_9 (by decide) (fun c9 => ?_) (fun c9 => ?_)
    · refine lv_aload_n hx hb dX2_tryThoseWaiting_76 rfl (lv_at hl 2 rfl) ?_
      refine va_get (C := RX2) (T := TX2) (N := 8) (ci := 2) hx hb hts hi_X2 hown hK hP (0) (rfl) rfl 5 (by decide) (hts (.fieldLink RX2 77 "GroupSeats" "waiters" "I") (by decide +kernel)) (fun _ h9 => h9) rfl dX2_tryThoseWaiting_77 ?_
      refine lv_iload_n hx hb dX2_tryThoseWaiting_80 rfl (lv_at hl 1 rfl) ?_
      refine lv_isub hx hb dX2_tryThoseWaiting_81 ?_
      refine lv_istore_n (lv' := [(2, .int _), (1, .int _), (0, .ref _)]) hx hb dX2_tryThoseWaiting_82 rfl hl (by decide) rfl (fun ls hl => ?_)
      refine lv_aload_n hx hb dX2_tryThoseWaiting_83 rfl (lv_at hl 2 rfl) ?_
      refine lv_iload_n hx hb dX2_tryThoseWaiting_84 rfl (lv_at hl 1 rfl) ?_
      refine va_put (C := RX2) (T := TX2) (N := 8) (ci := 2) (ty := .int) hx hb hts hi_X2 tyX2 tyX2_ok nmX2 hown hK hP hD hS (0) (rfl) rfl 5 (by decide) (hts (.fieldLink RX2 77 "GroupSeats" "waiters" "I") (by decide +kernel)) (fun _ h9 => h9) rfl (by decide +kernel) rfl rfl (Nat.le_of_ble_eq_true rfl) dX2_tryThoseWaiting_85 (fun H locs hP hD hS => ?_)
      have hP : va_P D vwCl (hW K a z sd ho bk ow pl pn pm nm cn co qu (nI B) (nI s0) (nI mh) fl) H := hP
      have hD : va_D A (hW K a z sd ho bk ow pl pn pm nm cn co qu (nI B) (nI s0) (nI mh) fl) := hD
      refine lv_iload_n hx hb dX2_tryThoseWaiting_88 rfl (lv_at hl 0 rfl) ?_
      exact g_iret hx hb hr hlocks (Nat.le_of_ble_eq_true rfl) (Nat.le_of_ble_eq_true rfl) hK hP hD hS dX2_tryThoseWaiting_89 (⟨by rw [pk_sub (by omega), hst], ho, bk, qu, by rw [← hF2, hst]; rfl, hM, by rw [← hF1]; simpa [tryA] using hSt⟩)
    · exact absurd (nI_le (by omega) (by omega)) c9
  | cons P ps ih =>
    intro k s0 B mh St ho bk qu ow fl H locs hi hsk hSl hB40 hmh6 hM hSt hPs hF1 hF2 hP hD hS ls hl
    rw [List.length_cons] at hi
    have hR := hPs 0 P rfl
    rw [Nat.add_zero] at hR
    have hRa := hR.2.2.2.2.1
    have hRb := hR.2.2.2.2.2
    refine lv_iload_n hx hb dX2_tryThoseWaiting_4 rfl (lv_at hl 0 rfl) ?_
    refine lv_aload_n hx hb dX2_tryThoseWaiting_5 rfl (lv_at hl 2 rfl) ?_
    refine va_get (C := RX2) (T := TX2) (N := 8) (ci := 2) hx hb hts hi_X2 hown hK hP (0) (rfl) rfl 5 (by decide) (hts (.fieldLink RX2 77 "GroupSeats" "waiters" "I") (by decide +kernel)) (fun _ h9 => h9) rfl dX2_tryThoseWaiting_6 ?_
    refine lv_icmp_ge (tgt := 76) hx hb dX2_tryThoseWaiting_9 (by decide) (fun c9 => ?_) (fun c9 => ?_)
    · exact absurd c9 (nI_ge (by omega) (by omega))
    · refine lv_aload_n hx hb dX2_tryThoseWaiting_12 rfl (lv_at hl 2 rfl) ?_
      refine va_get (C := RX2) (T := TX2) (N := 8) (ci := 2) hx hb hts hi_X2 hown hK hP (0) (rfl) rfl 2 (by decide) (hts (.fieldLink RX2 21 "GroupSeats" "queue" "[LGroupSeats$Party;") (by decide +kernel)) (fun _ h9 => h9) rfl dX2_tryThoseWaiting_13 ?_
      refine lv_iload_n hx hb dX2_tryThoseWaiting_16 rfl (lv_at hl 0 rfl) ?_
      refine g_aldq hx hb hK hP (3) 3 (rfl) rfl (vp_in_nI (show k < 8 by omega) (by decide)) (gRf_at (show k < 8 by omega) (by decide)) dX2_tryThoseWaiting_17 ?_
      refine lv_astore_n (lv' := [(3, .ref _), (2, .int _), (1, .int _), (0, .ref _)]) hx hb dX2_tryThoseWaiting_18 rfl hl (by decide) rfl (fun ls hl => ?_)
      refine lv_aload_n hx hb dX2_tryThoseWaiting_19 rfl (lv_at hl 3 rfl) ?_
      refine va_get (C := RX2) (T := TX2) (N := 8) (ci := 2) hx hb hts hi_X2 hown hK hP (0) (rfl) rfl 4 (by decide) (hts (.fieldLink RX2 66 "GroupSeats" "bookings" "I") (by decide +kernel)) (fun _ h9 => h9) rfl dX2_tryThoseWaiting_20 ?_
      refine lv_bipush (v := 40) hx hb dX2_tryThoseWaiting_23 (by decide) ?_
      refine lv_icmp_ge (tgt := 40) hx hb dX2_tryThoseWaiting_25 (by decide) (fun c25 => ?_) (fun c25 => ?_)
      · have hBf : ¬ B < 40 := fun q => absurd c25 (nI_ge (b := 40) q (by decide))
        refine lv_iconst (v := 0) hx hb dX2_tryThoseWaiting_40 (by decide) ?_
        refine lv_istore (lv' := [(4, .int _), (3, .ref _), (2, .int _), (1, .int _), (0, .ref _)]) hx hb dX2_tryThoseWaiting_41 hl (by decide) rfl (fun ls hl => ?_)
        refine lv_iload hx hb dX2_tryThoseWaiting_43 (lv_at hl 0 rfl) ?_
        refine lv_if_ne (tgt := 70) hx hb dX2_tryThoseWaiting_45 (by decide) (fun c45 => ?_) (fun c45 => ?_)
        · exact absurd rfl c45
        · refine lv_aload_n hx hb dX2_tryThoseWaiting_48 rfl (lv_at hl 4 rfl) ?_
          refine va_get (C := RX2) (T := TX2) (N := 8) (ci := 2) hx hb hts hi_X2 hown hK hP (0) (rfl) rfl 2 (by decide) (hts (.fieldLink RX2 21 "GroupSeats" "queue" "[LGroupSeats$Party;") (by decide +kernel)) (fun _ h9 => h9) rfl dX2_tryThoseWaiting_49 ?_
          refine lv_iload_n hx hb dX2_tryThoseWaiting_52 rfl (lv_at hl 2 rfl) ?_
          refine lv_aload_n hx hb dX2_tryThoseWaiting_53 rfl (lv_at hl 4 rfl) ?_
          refine va_get (C := RX2) (T := TX2) (N := 8) (ci := 2) hx hb hts hi_X2 hown hK hP (0) (rfl) rfl 2 (by decide) (hts (.fieldLink RX2 21 "GroupSeats" "queue" "[LGroupSeats$Party;") (by decide +kernel)) (fun _ h9 => h9) rfl dX2_tryThoseWaiting_54 ?_
          refine lv_iload_n hx hb dX2_tryThoseWaiting_57 rfl (lv_at hl 3 rfl) ?_
          refine g_aldq hx hb hK hP (3) 3 (rfl) rfl (vp_in_nI (show s0 < 8 by omega) (by decide)) (gRf_at (show s0 < 8 by omega) (by decide)) dX2_tryThoseWaiting_58 ?_
          refine va_astq hx hb hK hP hD hS 3 3 (2 * (qu s0) + 20 + 4) 0 rfl rfl (hW_par (hM.1 _ (by omega))) rfl (vp_in_nI (show k < 8 by omega) (by decide)) dX2_tryThoseWaiting_59 (fun H locs hP hD hS => ?_)
          have hP : va_P D vwCl ((hW K a z sd ho bk ow pl pn pm nm cn co qu (nI B) (nI wt) (nI mh) fl).set 3 (a 0 3, gRef K.2.2.2 8 (va_up (gRf 8 (fun i => a 3 (qu i))) (nI k).toNatClampNeg (some (a 3 (qu s0)))))) H := hP
          have hD : va_D A ((hW K a z sd ho bk ow pl pn pm nm cn co qu (nI B) (nI wt) (nI mh) fl).set 3 (a 0 3, gRef K.2.2.2 8 (va_up (gRf 8 (fun i => a 3 (qu i))) (nI k).toNatClampNeg (some (a 3 (qu s0)))))) := hD
          rw [hW_setQu (show k < 8 by omega)] at hP hD
          refine lv_aload_n hx hb dX2_tryThoseWaiting_60 rfl (lv_at hl 4 rfl) ?_
          refine va_get (C := RX2) (T := TX2) (N := 8) (ci := 2) hx hb hts hi_X2 hown hK hP (0) (rfl) rfl 2 (by decide) (hts (.fieldLink RX2 21 "GroupSeats" "queue" "[LGroupSeats$Party;") (by decide +kernel)) (fun _ h9 => h9) rfl dX2_tryThoseWaiting_61 ?_
          refine lv_iload_n hx hb dX2_tryThoseWaiting_64 rfl (lv_at hl 3 rfl) ?_
          refine lv_aload_n hx hb dX2_tryThoseWaiting_65 rfl (lv_at hl 1 rfl) ?_
          refine va_astq hx hb hK hP hD hS 3 3 (2 * (qu k) + 20 + 4) 0 rfl rfl (hW_par (hM.1 _ (by omega))) rfl (vp_in_nI (show s0 < 8 by omega) (by decide)) dX2_tryThoseWaiting_66 (fun H locs hP hD hS => ?_)
          have hP : va_P D vwCl ((hW K a z sd ho bk ow pl pn pm nm cn co (va_up qu k (qu s0)) (nI B) (nI wt) (nI mh) fl).set 3 (a 0 3, gRef K.2.2.2 8 (va_up (gRf 8 (fun i => a 3 ((va_up qu k (qu s0)) i))) (nI s0).toNatClampNeg (some (a 3 (qu k)))))) H := hP
          have hD : va_D A ((hW K a z sd ho bk ow pl pn pm nm cn co (va_up qu k (qu s0)) (nI B) (nI wt) (nI mh) fl).set 3 (a 0 3, gRef K.2.2.2 8 (va_up (gRf 8 (fun i => a 3 ((va_up qu k (qu s0)) i))) (nI s0).toNatClampNeg (some (a 3 (qu k)))))) := hD
          rw [hW_setQu (show s0 < 8 by omega)] at hP hD
          refine lv_iinc (lv' := [(1, .int _), (4, .int _), (3, .ref _), (2, .int _), (0, .ref _)]) hx hb dX2_tryThoseWaiting_67 hl (k := 3) rfl rfl (by decide) rfl (fun ls hl => ?_)
          refine lv_iinc (lv' := [(2, .int _), (1, .int _), (4, .int _), (3, .ref _), (0, .ref _)]) hx hb dX2_tryThoseWaiting_70 hl (k := 3) rfl rfl (by decide) rfl (fun ls hl => ?_)
          refine lv_goto (tgt := 4) hx hb dX2_tryThoseWaiting_73 (by decide) ?_
          rw [g_inc] at hl
          rw [g_inc] at hl
          rw [tryA_full (by omega)] at hF1 hF2
          have hSt2 : PQ pl pn pm nm (swp qu k s0) 0 (St ++ [P]) := by
            intro i Q hQ
            rcases Nat.lt_or_ge i St.length with q | q
            · rw [List.getElem?_append_left q] at hQ
              rw [swp_ne (by omega) (by omega)]
              exact hSt i Q hQ
            · have hiS : i = St.length := by have := (List.getElem?_eq_some_iff.mp hQ).1; simp at this; omega
              rw [hiS, List.getElem?_append_right (Nat.le_refl _), Nat.sub_self] at hQ
              cases hQ
              rw [show 0 + i = s0 by omega, swp_s]
              exact hR
          have hPs2 : PQ pl pn pm nm (swp qu k s0) (k + 1) ps := by
            intro i Q hQ
            rw [swp_ne (by omega) (by omega)]
            exact PQ_tail hPs i Q hQ
          exact ih (k + 1) (s0 + 1) B mh (St ++ [P]) ho bk (swp qu k s0) ow fl H locs (by omega) (by omega) (by simp [hSl]) (by omega) hmh6 (PM_swp hM (by omega) (by omega)) hSt2 hPs2 (by rw [← hF1]; simp) hF2 hP hD hS ls (lv_sub hl [0, 1, 4] rfl)
      · have hBl : B < 40 := Nat.lt_of_not_le (fun q => c25 (nI_le (a := 40) q (by omega)))
        refine lv_aload_n hx hb dX2_tryThoseWaiting_28 rfl (lv_at hl 3 rfl) ?_
        refine lv_aload_n hx hb dX2_tryThoseWaiting_29 rfl (lv_at hl 0 rfl) ?_
        refine g_calli (va_runV (As := [.ref _]) (rest := []) ⟨hx, hb, hml, hown, hts⟩ (c_goThrough l D K a z sd ho bk ow pl pn pm nm cn co qu B wt mh fl (qu k) P.1 2 P.2 _ (hM.1 k (by omega)) hz hR.1 hR.2.2.2.1 hR.2.1 (by omega) hR.2.2.1 (by omega) (by omega)) (cwV 1 hts gX2_tryThoseWaiting_X2_goThrough rfl rfl rfl (by decide +kernel) ⟨(Nat.le_of_ble_eq_true rfl), (Nat.le_of_ble_eq_true rfl)⟩) (g_preV hK hP hD (ci := 2) (q0 := 0) rfl (rfl)) rfl rfl hl.1 rfl (lv_room (Nat.le_of_ble_eq_true rfl)) dX2_tryThoseWaiting_30 ⟨Nat.zero_le _, Nat.zero_le _⟩) hD hS hA (fun r30 wv H locs hw hP hD hS => ?_)
        have hGm := goA_mh (z := z) (sd := sd) (b := nI B) (n := P.1) (mo := 2) P.2 P.1 0 ow mh hmh6 (by have := hR.2.2.2.1.1; omega)
        by_cases hG : (goA z sd (nI B) P.1 2 P.2 P.1 0 ow mh).1 = 0
        · obtain ⟨er, ho2, bk2, ew⟩ := hw.1 hG
          rw [ew] at hP hD
          rw [er]
          refine lv_if_lt (tgt := 40) hx hb dX2_tryThoseWaiting_33 (by decide) (fun c33 => ?_) (fun c33 => ?_)
          · exact absurd c33 (nI_pos (by omega))
          · refine lv_iconst (v := 1) hx hb dX2_tryThoseWaiting_36 (by decide) ?_
            refine lv_goto (tgt := 41) hx hb dX2_tryThoseWaiting_37 (by decide) ?_
            refine lv_istore (lv' := [(4, .int _), (3, .ref _), (2, .int _), (1, .int _), (0, .ref _)]) hx hb dX2_tryThoseWaiting_41 hl (by decide) rfl (fun ls hl => ?_)
            refine lv_iload hx hb dX2_tryThoseWaiting_43 (lv_at hl 0 rfl) ?_
            refine lv_if_ne (tgt := 70) hx hb dX2_tryThoseWaiting_45 (by decide) (fun c45 => ?_) (fun c45 => ?_)
            · refine lv_iinc (lv' := [(2, .int _), (4, .int _), (3, .ref _), (1, .int _), (0, .ref _)]) hx hb dX2_tryThoseWaiting_70 hl (k := 2) rfl rfl (by decide) rfl (fun ls hl => ?_)
              refine lv_goto (tgt := 4) hx hb dX2_tryThoseWaiting_73 (by decide) ?_
              rw [g_inc] at hl
              rw [tryA_got (by omega) hG] at hF1 hF2
              exact ih (k + 1) s0 (B + 1) (goA z sd (nI B) P.1 2 P.2 P.1 0 ow mh).2.2 St ho2 bk2 qu (goA z sd (nI B) P.1 2 P.2 P.1 0 ow mh).2.1 fl H locs (by omega) (by omega) hSl (by omega) hGm hM hSt (PQ_tail hPs) hF1 hF2 hP hD hS ls (lv_sub hl [0, 3, 4] rfl)
            · exact absurd c45 (by decide)
        · obtain ⟨er, ho2, bk2, ew⟩ := hw.2 hG
          rw [ew] at hP hD
          rw [er]
          refine lv_if_lt (tgt := 40) hx hb dX2_tryThoseWaiting_33 (by decide) (fun c33 => ?_) (fun c33 => ?_)
          · refine lv_iconst (v := 0) hx hb dX2_tryThoseWaiting_40 (by decide) ?_
            refine lv_istore (lv' := [(4, .int _), (3, .ref _), (2, .int _), (1, .int _), (0, .ref _)]) hx hb dX2_tryThoseWaiting_41 hl (by decide) rfl (fun ls hl => ?_)
            refine lv_iload hx hb dX2_tryThoseWaiting_43 (lv_at hl 0 rfl) ?_
            refine lv_if_ne (tgt := 70) hx hb dX2_tryThoseWaiting_45 (by decide) (fun c45 => ?_) (fun c45 => ?_)
            · exact absurd rfl c45
            · refine lv_aload_n hx hb dX2_tryThoseWaiting_48 rfl (lv_at hl 4 rfl) ?_
              refine va_get (C := RX2) (T := TX2) (N := 8) (ci := 2) hx hb hts hi_X2 hown hK hP (0) (rfl) rfl 2 (by decide) (hts (.fieldLink RX2 21 "GroupSeats" "queue" "[LGroupSeats$Party;") (by decide +kernel)) (fun _ h9 => h9) rfl dX2_tryThoseWaiting_49 ?_
              refine lv_iload_n hx hb dX2_tryThoseWaiting_52 rfl (lv_at hl 2 rfl) ?_
              refine lv_aload_n hx hb dX2_tryThoseWaiting_53 rfl (lv_at hl 4 rfl) ?_
              refine va_get (C := RX2) (T := TX2) (N := 8) (ci := 2) hx hb hts hi_X2 hown hK hP (0) (rfl) rfl 2 (by decide) (hts (.fieldLink RX2 21 "GroupSeats" "queue" "[LGroupSeats$Party;") (by decide +kernel)) (fun _ h9 => h9) rfl dX2_tryThoseWaiting_54 ?_
              refine lv_iload_n hx hb dX2_tryThoseWaiting_57 rfl (lv_at hl 3 rfl) ?_
              refine g_aldq hx hb hK hP (3) 3 (rfl) rfl (vp_in_nI (show s0 < 8 by omega) (by decide)) (gRf_at (show s0 < 8 by omega) (by decide)) dX2_tryThoseWaiting_58 ?_
              refine va_astq hx hb hK hP hD hS 3 3 (2 * (qu s0) + 20 + 4) 0 rfl rfl (hW_par (hM.1 _ (by omega))) rfl (vp_in_nI (show k < 8 by omega) (by decide)) dX2_tryThoseWaiting_59 (fun H locs hP hD hS => ?_)
              have hP : va_P D vwCl ((hW K a z sd ho2 bk2 ow pl pn pm nm cn co qu (nI B) (nI wt) (nI (goA z sd (nI B) P.1 2 P.2 P.1 0 ow mh).2.2) (fl + 1)).set 3 (a 0 3, gRef K.2.2.2 8 (va_up (gRf 8 (fun i => a 3 (qu i))) (nI k).toNatClampNeg (some (a 3 (qu s0)))))) H := hP
              have hD : va_D A ((hW K a z sd ho2 bk2 ow pl pn pm nm cn co qu (nI B) (nI wt) (nI (goA z sd (nI B) P.1 2 P.2 P.1 0 ow mh).2.2) (fl + 1)).set 3 (a 0 3, gRef K.2.2.2 8 (va_up (gRf 8 (fun i => a 3 (qu i))) (nI k).toNatClampNeg (some (a 3 (qu s0)))))) := hD
              rw [hW_setQu (show k < 8 by omega)] at hP hD
              refine lv_aload_n hx hb dX2_tryThoseWaiting_60 rfl (lv_at hl 4 rfl) ?_
              refine va_get (C := RX2) (T := TX2) (N := 8) (ci := 2) hx hb hts hi_X2 hown hK hP (0) (rfl) rfl 2 (by decide) (hts (.fieldLink RX2 21 "GroupSeats" "queue" "[LGroupSeats$Party;") (by decide +kernel)) (fun _ h9 => h9) rfl dX2_tryThoseWaiting_61 ?_
              refine lv_iload_n hx hb dX2_tryThoseWaiting_64 rfl (lv_at hl 3 rfl) ?_
              refine lv_aload_n hx hb dX2_tryThoseWaiting_65 rfl (lv_at hl 1 rfl) ?_
              refine va_astq hx hb hK hP hD hS 3 3 (2 * (qu k) + 20 + 4) 0 rfl rfl (hW_par (hM.1 _ (by omega))) rfl (vp_in_nI (show s0 < 8 by omega) (by decide)) dX2_tryThoseWaiting_66 (fun H locs hP hD hS => ?_)
              have hP : va_P D vwCl ((hW K a z sd ho2 bk2 ow pl pn pm nm cn co (va_up qu k (qu s0)) (nI B) (nI wt) (nI (goA z sd (nI B) P.1 2 P.2 P.1 0 ow mh).2.2) (fl + 1)).set 3 (a 0 3, gRef K.2.2.2 8 (va_up (gRf 8 (fun i => a 3 ((va_up qu k (qu s0)) i))) (nI s0).toNatClampNeg (some (a 3 (qu k)))))) H := hP
              have hD : va_D A ((hW K a z sd ho2 bk2 ow pl pn pm nm cn co (va_up qu k (qu s0)) (nI B) (nI wt) (nI (goA z sd (nI B) P.1 2 P.2 P.1 0 ow mh).2.2) (fl + 1)).set 3 (a 0 3, gRef K.2.2.2 8 (va_up (gRf 8 (fun i => a 3 ((va_up qu k (qu s0)) i))) (nI s0).toNatClampNeg (some (a 3 (qu k)))))) := hD
              rw [hW_setQu (show s0 < 8 by omega)] at hP hD
              refine lv_iinc (lv' := [(1, .int _), (4, .int _), (3, .ref _), (2, .int _), (0, .ref _)]) hx hb dX2_tryThoseWaiting_67 hl (k := 3) rfl rfl (by decide) rfl (fun ls hl => ?_)
              refine lv_iinc (lv' := [(2, .int _), (1, .int _), (4, .int _), (3, .ref _), (0, .ref _)]) hx hb dX2_tryThoseWaiting_70 hl (k := 3) rfl rfl (by decide) rfl (fun ls hl => ?_)
              refine lv_goto (tgt := 4) hx hb dX2_tryThoseWaiting_73 (by decide) ?_
              rw [g_inc] at hl
              rw [g_inc] at hl
              rw [tryA_not (by omega) hG] at hF1 hF2
              have hSt2 : PQ pl pn pm nm (swp qu k s0) 0 (St ++ [P]) := by
                intro i Q hQ
                rcases Nat.lt_or_ge i St.length with q | q
                · rw [List.getElem?_append_left q] at hQ
                  rw [swp_ne (by omega) (by omega)]
                  exact hSt i Q hQ
                · have hiS : i = St.length := by have := (List.getElem?_eq_some_iff.mp hQ).1; simp at this; omega
                  rw [hiS, List.getElem?_append_right (Nat.le_refl _), Nat.sub_self] at hQ
                  cases hQ
                  rw [show 0 + i = s0 by omega, swp_s]
                  exact hR
              have hPs2 : PQ pl pn pm nm (swp qu k s0) (k + 1) ps := by
                intro i Q hQ
                rw [swp_ne (by omega) (by omega)]
                exact PQ_tail hPs i Q hQ
              exact ih (k + 1) (s0 + 1) B (goA z sd (nI B) P.1 2 P.2 P.1 0 ow mh).2.2 (St ++ [P]) ho2 bk2 (swp qu k s0) ow (fl + 1) H locs (by omega) (by omega) (by simp [hSl]) (by omega) hGm (PM_swp hM (by omega) (by omega)) hSt2 hPs2 (by rw [← hF1]; simp) hF2 hP hD hS ls (lv_sub hl [0, 1, 4] rfl)
          · exact absurd (by rcases goA_neg (z := z) (sd := sd) (b := nI B) (n := P.1) (mo := 2) P.2 P.1 0 ow mh with q | q | q | q <;> first | exact absurd q hG | (rw [q]; decide)) c33
set_option maxHeartbeats 4000000 in
set_option maxRecDepth 100000 in
/-- tryThoseWaiting -/
theorem c_try (l : Launch) (D : va_G) (K : gCl) (a : Nat → Nat → Nat) (z : Nat → Nat) (sd ho bk : Nat → Int32) (ow : Nat → Nat → Int32) (pl pn pm : Nat → Int32) (nm : Nat → Nat → Int32) (cn : Nat → Int32) (co : Nat) (qu : Nat → Nat) (B mh : Nat) (fl : Int32) (q : List Pty) (sz : Nat) (hz : ∀ i, i < 10 → z i ≤ 20) (hq8 : q.length ≤ 8) (hB40 : B ≤ 40) (hmh6 : mh ≤ 6) (hM : PM qu co) (hPs : PQ pl pn pm nm qu 0 q) : gMi l yX2_tryThoseWaiting wsX2_tryThoseWaiting ({ frames := 11, cells := 0, slots := 0, locals := 350 } : Room) D vwCl (gT K) [.ref (a 0 0)] (hW K a z sd ho bk ow pl pn pm nm cn co qu (nI B) (nI q.length) (nI mh) fl) sz (tPo K a z sd pl pn pm nm cn co q.length (tryA z sd q B ow mh fl)) 0 0 := by
  refine g_of (cc := cX2_tryThoseWaiting) (maxL := 5) (ret := (some .int)) (Qc := fun A => va_Qi (tPo K a z sd pl pn pm nm cn co q.length (tryA z sd q B ow mh fl)) (gB D vwCl (gT K) A) A) (by decide) rfl (Nat.le_of_ble_eq_true rfl) ?_
  intro p e s m below meth c A ls I hl
  have I0 := I
  obtain ⟨hx, hb, hr, hml, hown, hts, hlocks, hnm, hA, hK, hP, hD, hS⟩ := I
  have hown : s.vm.findClass RX2 = some m.cls := hown
  have hl : lv_has ls 5 [(0, .ref (a 0 0))] := hl
  have hi_X2 : ∀ w ∈ u_ws RX2 TX2 8, w ∈ wsX2_tryThoseWaiting := by decide +kernel
  refine lv_iconst (v := 0) hx hb dX2_tryThoseWaiting_0 (by decide) ?_
  refine lv_istore_n (lv' := [(1, .int _), (0, .ref _)]) hx hb dX2_tryThoseWaiting_1 rfl hl (by decide) rfl (fun ls hl => ?_)
  refine lv_iconst (v := 0) hx hb dX2_tryThoseWaiting_2 (by decide) ?_
  refine lv_istore_n (lv' := [(2, .int _), (1, .int _), (0, .ref _)]) hx hb dX2_tryThoseWaiting_3 rfl hl (by decide) rfl (fun ls hl => ?_)
  exact lp_try (F := tryA z sd q B ow mh fl) hz hq8 I0 q 0 0 B mh [] ho bk qu ow fl _ _ (by omega) (by omega) rfl hB40 hmh6 hM (fun i P h => by simp at h) (fun i P h => by rw [Nat.zero_add]; exact hPs i P h |> fun x => by rwa [Nat.zero_add] at x) rfl rfl hP hD hS ls (lv_sub hl [0, 1, 2] rfl)
