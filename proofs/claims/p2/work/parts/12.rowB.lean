/-! the hall's way to the best stretch: what holds at its loop's head -/
def JB (f : Nat → Int32) (z w i s b n : Nat) : Prop :=
  i ≤ z ∧ b ≤ w ∧ n ≤ i ∧ (∀ k, i - n ≤ k → k < i → f k = -8) ∧ (n < i → f (i - n - 1) ≠ -8) ∧ s + b ≤ i ∧ (∀ k, s ≤ k → k < s + b → f k = -8) ∧
    (∀ k, k + b + 1 ≤ i → ∃ j, k ≤ j ∧ j ≤ k + b ∧ f j ≠ -8) ∧ ∀ k, k < s → ∃ j, k ≤ j ∧ j < k + b ∧ f j ≠ -8
theorem JB_0 {f : Nat → Int32} {z w : Nat} : JB f z w 0 0 0 0 :=
  ⟨by omega, by omega, by omega, fun k _ h => by omega, fun h => by omega, by omega, fun k _ h => by omega, fun k h => by omega, fun k h => by omega⟩
theorem JB_no {f : Nat → Int32} {z w i s b n : Nat} (h : JB f z w i s b n) (hi : i < z) (hf : f i ≠ -8) : JB f z w (i + 1) s b 0 := by
  obtain ⟨h1, h2, h3, h4, h5, h6, h7, h8, h9⟩ := h
  refine ⟨by omega, h2, by omega, fun k a c => by omega, fun _ => by rw [show i + 1 - 0 - 1 = i by omega]; exact hf, by omega, h7, fun k hk => ?_, h9⟩
  by_cases e : k + b + 1 ≤ i
  · exact h8 k e
  · exact ⟨i, by omega, by omega, hf⟩
theorem JB_in {f : Nat → Int32} {z w i s b n : Nat} (h : JB f z w i s b n) (hi : i < z) (hf : f i = -8) (hn : n + 1 ≤ b) : JB f z w (i + 1) s b (n + 1) := by
  obtain ⟨h1, h2, h3, h4, h5, h6, h7, h8, h9⟩ := h
  refine ⟨by omega, h2, by omega, fun k a c => ?_, fun a => ?_, by omega, h7, fun k hk => ?_, h9⟩
  · by_cases e : k = i
    · rw [e]; exact hf
    · exact h4 k (by omega) (by omega)
  · rw [show i + 1 - (n + 1) - 1 = i - n - 1 by omega]
    exact h5 (by omega)
  · by_cases e : k + b + 1 ≤ i
    · exact h8 k e
    · exact ⟨i - n - 1, by omega, by omega, h5 (by omega)⟩
theorem JB_up {f : Nat → Int32} {z w i s b n : Nat} (h : JB f z w i s b n) (hi : i < z) (hw : b < w) (hf : f i = -8) (hn : b < n + 1) : JB f z w (i + 1) (i + 1 - (n + 1)) (n + 1) (n + 1) := by
  obtain ⟨h1, h2, h3, h4, h5, h6, h7, h8, h9⟩ := h
  have hnb : n = b := by
    rcases Nat.lt_or_ge b n with q | q
    · obtain ⟨j, a, c, d⟩ := h8 (i - n) (by omega)
      exact absurd (h4 j a (by omega)) d
    · omega
  subst hnb
  have hfr : ∀ k, i + 1 - (n + 1) ≤ k → k < i + 1 → f k = -8 := fun k a c => by
    by_cases e : k = i
    · rw [e]; exact hf
    · exact h4 k (by omega) (by omega)
  refine ⟨by omega, by omega, by omega, hfr, fun a => ?_, by omega, fun k a c => hfr k a (by omega), fun k hk => ?_, fun k hk => ?_⟩
  · rw [show i + 1 - (n + 1) - 1 = i - n - 1 by omega]
    exact h5 (by omega)
  · obtain ⟨j, a, c, d⟩ := h8 k (by omega)
    exact ⟨j, a, by omega, d⟩
  · obtain ⟨j, a, c, d⟩ := h8 k (by omega)
    exact ⟨j, a, by omega, d⟩
theorem JB_end {f : Nat → Int32} {z w i s b n : Nat} (h : JB f z w i s b n) (he : i = z ∨ w ≤ b) : isBs f z w s := by
  obtain ⟨h1, h2, h3, h4, h5, h6, h7, h8, h9⟩ := h
  have hr : b ≤ runL f (z - s) s := runL_ge f (z - s) s b (by omega) h7
  have hs : b ≤ valS f z w s := by unfold valS; omega
  refine ⟨by omega, fun k hk => ?_, fun k hk => ?_⟩
  · rcases he with e | e
    · have : runL f (z - k) k ≤ b := by
        rcases Nat.lt_or_ge b (runL f (z - k) k) with q | q
        · have := runL_le f (z - k) k
          obtain ⟨j, a, c, d⟩ := h8 k (by omega)
          exact absurd (runL_free f (z - k) k j a (by omega)) d
        · exact q
      unfold valS at hs ⊢
      omega
    · unfold valS at hs ⊢
      omega
  · obtain ⟨j, a, c, d⟩ := h9 k hk
    have := runL_lt (n := z - k) a d
    unfold valS at hs ⊢
    omega
/-! the taking -/
def lim (sd : Int32) (f : Nat → Int32) (n i c : Nat) : Nat := if sd = 0 then c else min (runL f n i) c
theorem lim_0 {sd : Int32} {f : Nat → Int32} {n i : Nat} : lim sd f n i 0 = 0 := by unfold lim; split <;> omega
theorem lim_stop {sd : Int32} {f : Nat → Int32} {n i c : Nat} (hs : sd ≠ 0) (hf : f i ≠ -8) : lim sd f n i c = 0 := by
  have := runL_lt (n := n) (Nat.le_refl i) hf
  unfold lim
  rw [if_neg hs]
  omega
theorem tk_no {b sd : Int32} {f : Nat → Int32} {k i c t : Nat} (hs : sd = 0) (hf : f i ≠ -8) : mkF b (k + 1) i (lim sd f (k + 1) i c) f = mkF b k (i + 1) (lim sd f k (i + 1) c) f ∧ mkT f (k + 1) i (lim sd f (k + 1) i c) t = mkT f k (i + 1) (lim sd f k (i + 1) c) t := by
  unfold lim
  rw [if_pos hs, if_pos hs]
  by_cases hc : c = 0
  · subst hc
    rw [mkF_0, mkF_0, mkT_0, mkT_0]
    exact ⟨rfl, rfl⟩
  · constructor
    · rw [mkF, if_neg hc, if_neg hf]
    · rw [mkT, if_neg hc, if_neg hf]
theorem tk_yes {b sd : Int32} {f : Nat → Int32} {k i c t : Nat} (hf : f i = -8) : mkF b (k + 1) i (lim sd f (k + 1) i (c + 1)) f = mkF b k (i + 1) (lim sd (upd f i b) k (i + 1) c) (upd f i b) ∧ mkT f (k + 1) i (lim sd f (k + 1) i (c + 1)) t = mkT (upd f i b) k (i + 1) (lim sd (upd f i b) k (i + 1) c) (t + 2 ^ i) := by
  have e : lim sd f (k + 1) i (c + 1) = lim sd (upd f i b) k (i + 1) c + 1 := by
    unfold lim
    split
    · rfl
    · rw [runL, if_pos hf, runL_congr (f := f) (g := upd f i b) k (i + 1) (fun j hj => (upd_after j hj).symm)]
      omega
  rw [e]
  constructor
  · rw [mkF, if_neg (by omega), if_pos hf, Nat.add_sub_cancel]
  · rw [mkT, if_neg (by omega), if_pos hf, Nat.add_sub_cancel]
    exact mkT_congr _ _ _ _ (fun j hj => (upd_after j hj).symm)
theorem or_bit {t i : Nat} (ht : t < 2 ^ i) (hi : i < 20) : nI t ||| ((1 : Int32) <<< (nI i &&& 31)) = nI (t + 2 ^ i) := by
  rw [sh_one (by omega)]
  apply Int32.toBitVec_inj.1
  show BitVec.ofNat 32 t ||| BitVec.ofNat 32 (2 ^ i) = BitVec.ofNat 32 (t + 2 ^ i)
  have h1 : t < 2 ^ 20 := Nat.lt_trans ht (Nat.pow_lt_pow_right (by decide) hi)
  have h2 : 2 ^ i < 2 ^ 20 := Nat.pow_lt_pow_right (by decide) hi
  apply BitVec.eq_of_toNat_eq
  rw [BitVec.toNat_or]
  simp only [BitVec.toNat_ofNat]
  rw [Nat.mod_eq_of_lt (by omega), Nat.mod_eq_of_lt (by omega), Nat.mod_eq_of_lt (by omega)]
  apply Nat.eq_of_testBit_eq
  intro j
  rw [Nat.testBit_or, tb_add ht, Nat.testBit_two_pow]
  congr 1
  simp [eq_comm]
/-! the JDK's count, on the machine's numbers -/
theorem lt_1431655765 : (1431655765 : Int32) = nI 1431655765 := by decide +kernel
theorem lt_858993459 : (858993459 : Int32) = nI 858993459 := by decide +kernel
theorem lt_252645135 : (252645135 : Int32) = nI 252645135 := by decide +kernel
theorem lt_63 : (63 : Int32) = nI 63 := by decide +kernel
theorem bw_1 {t y : Nat} (ht : t < 2 ^ 24) (h : y + (t / 2 &&& 1431655765) = t) : nI t - (((nI t).toUInt32 >>> ((1 : Int32).toUInt32 &&& Int32.toUInt32 31)).toInt32 &&& 1431655765) = nI y := by
  rw [pk_ushrN (by omega) 1 1 (by decide), lt_1431655765, nx_and, Nat.pow_one, pk_sub (by omega)]
  congr 1
  omega
theorem bw_2 {t y : Nat} (ht : t < 2 ^ 24) (h : y = (t &&& 858993459) + (t / 4 &&& 858993459)) : (nI t &&& 858993459) + (((nI t).toUInt32 >>> ((2 : Int32).toUInt32 &&& Int32.toUInt32 31)).toInt32 &&& 858993459) = nI y := by
  rw [pk_ushrN (by omega) 2 2 (by decide), lt_858993459, nx_and, nx_and, nI_add, h]
theorem bw_3 {t y : Nat} (ht : t < 2 ^ 24) (h : y = (t + t / 16) &&& 252645135) : (nI t + ((nI t).toUInt32 >>> ((4 : Int32).toUInt32 &&& Int32.toUInt32 31)).toInt32) &&& 252645135 = nI y := by
  rw [pk_ushrN (by omega) 4 4 (by decide), lt_252645135, nI_add, nx_and, h]
theorem bw_4 {t y : Nat} (ht : t < 2 ^ 24) (h : y = t + t / 256) : nI t + ((nI t).toUInt32 >>> ((8 : Int32).toUInt32 &&& Int32.toUInt32 31)).toInt32 = nI y := by
  rw [pk_ushrN (by omega) 8 8 (by decide), nI_add, h]
theorem bw_5 {t y : Nat} (ht : t < 2 ^ 24) (h : y = t + t / 65536) : nI t + ((nI t).toUInt32 >>> ((16 : Int32).toUInt32 &&& Int32.toUInt32 31)).toInt32 = nI y := by
  rw [pk_ushrN (by omega) 16 16 (by decide), nI_add, h]
theorem bw_6 {t : Nat} : nI t &&& 63 = nI (t % 64) := by
  rw [lt_63, nx_and, show (63 : Nat) = 2 ^ 6 - 1 from rfl, Nat.and_two_pow_sub_one_eq_mod]
set_option maxHeartbeats 4000000 in
set_option maxRecDepth 100000 in
theorem lp_best {p : Program} {l : Launch} {e : Env} {s : State} {m : MethodId} {args : Array Value} {below : List Frame} {meth : Method} {c : Code} {A : Nat → Prop} {D : va_G} {K : gCl} {ws0 : va_W} {rm : Room} {ws : va_W} {a o q0 q1 z : Nat} {sd ho bk : Int32} {f : Nat → Int32} {w : Nat} (hw : w < 2 ^ 20) (hz : z ≤ 20) (he0 : ws[q0]? = some (a, gRow o (nI z) sd ho bk)) (he1 : ws[q1]? = some (o, gArr K.1 20 f))
    (I : gIn p s m meth c A yX1_bestStretch wsX1_bestStretch cX1_bestStretch 6 (some .int) args D vwCl (gT K) ws0)  :
    ∀ (k : Nat) (i s0 b0 n0 : Nat) (H : Heap) (locs : List Loc), i + k = z → JB f z w i s0 b0 n0 → va_P D vwCl (ws) H → va_D A (ws) → va_S A s.heap H locs →
    ∀ (ls : Array Slot), lv_has ls 6 [(5, .int (nI i)), (4, .int (nI n0)), (3, .int (nI b0)), (2, .int (nI s0)), (0, .ref a), (1, .int (nI w))] →
    W p l e rm s m args below meth c H locs 0 0 (MQ below (va_Qi (fun r w1 => w1 = ws ∧ ∃ x : Nat, r = nI x ∧ isBs f z w x) (gB D vwCl (gT K) A) A) args s 0 0 A) (F0 m 10 ls []) := by
  have I0 := I
  obtain ⟨hx, hb, hr, hml, hown, hts, hlocks, hnm, hA, hK, -, -, -⟩ := I
  have hown : s.vm.findClass RX1 = some m.cls := hown
  have hi_X1 : ∀ w ∈ u_ws RX1 TX1 5, w ∈ wsX1_bestStretch := by decide +kernel
  intro k
  induction k with
  | zero =>
    intro i s0 b0 n0 H locs hi hJ hP hD hS ls hl
    have hJ1 := hJ.2.1
    refine lv_iload hx hb dX1_bestStretch_10 (lv_at hl 0 rfl) ?_
    refine lv_aload_n hx hb dX1_bestStretch_12 rfl (lv_at hl 4 rfl) ?_
    refine va_get (C := RX1) (T := TX1) (N := 5) (ci := 1) hx hb hts hi_X1 hown hK hP (q0) (he0) rfl 1 (by decide) (hts (.fieldLink RX1 15 "GroupSeats$Row" "size" "I") (by decide +kernel)) (fun _ h9 => h9) rfl dX1_bestStretch_13 ?_
    refine lv_icmp_ge (tgt := 69) hx hb dX1_bestStretch_16 (by decide) (fun c16 => ?_) (fun c16 => ?_)
    · refine lv_iload_n hx hb dX1_bestStretch_69 rfl (lv_at hl 3 rfl) ?_
      exact g_iret hx hb hr hlocks (Nat.le_of_ble_eq_true rfl) (Nat.le_of_ble_eq_true rfl) hK hP hD hS dX1_bestStretch_70 (⟨rfl, s0, rfl, JB_end hJ (Or.inl (by omega))⟩)
    · exact absurd (nI_le (by omega) (by omega)) c16
  | succ k ih =>
    intro i s0 b0 n0 H locs hi hJ hP hD hS ls hl
    have hJ1 := hJ.2.1
    have hJ2 := hJ.2.2.1
    refine lv_iload hx hb dX1_bestStretch_10 (lv_at hl 0 rfl) ?_
    refine lv_aload_n hx hb dX1_bestStretch_12 rfl (lv_at hl 4 rfl) ?_
    refine va_get (C := RX1) (T := TX1) (N := 5) (ci := 1) hx hb hts hi_X1 hown hK hP (q0) (he0) rfl 1 (by decide) (hts (.fieldLink RX1 15 "GroupSeats$Row" "size" "I") (by decide +kernel)) (fun _ h9 => h9) rfl dX1_bestStretch_13 ?_
    refine lv_icmp_ge (tgt := 69) hx hb dX1_bestStretch_16 (by decide) (fun c16 => ?_) (fun c16 => ?_)
    · exact absurd c16 (nI_ge (by omega) (by omega))
    · refine lv_iload_n hx hb dX1_bestStretch_19 rfl (lv_at hl 2 rfl) ?_
      refine lv_iload_n hx hb dX1_bestStretch_20 rfl (lv_at hl 5 rfl) ?_
      refine lv_icmp_ge (tgt := 69) hx hb dX1_bestStretch_21 (by decide) (fun c21 => ?_) (fun c21 => ?_)
      · refine lv_iload_n hx hb dX1_bestStretch_69 rfl (lv_at hl 3 rfl) ?_
        exact g_iret hx hb hr hlocks (Nat.le_of_ble_eq_true rfl) (Nat.le_of_ble_eq_true rfl) hK hP hD hS dX1_bestStretch_70 (⟨rfl, s0, rfl, JB_end hJ (Or.inr ((nI_leI (by omega) (by omega)).mp c21))⟩)
      · have hbw : b0 < w := Nat.lt_of_not_le (fun q => c21 (nI_le q (by omega)))
        refine lv_aload_n hx hb dX1_bestStretch_24 rfl (lv_at hl 4 rfl) ?_
        refine va_get (C := RX1) (T := TX1) (N := 5) (ci := 1) hx hb hts hi_X1 hown hK hP (q0) (he0) rfl 0 (by decide) (hts (.fieldLink RX1 9 "GroupSeats$Row" "owners" "[I") (by decide +kernel)) (fun _ h9 => h9) rfl dX1_bestStretch_25 ?_
        refine lv_iload hx hb dX1_bestStretch_28 (lv_at hl 0 rfl) ?_
        refine va_iald hx hb hK hP (q1) 0 (he1) rfl (vp_in_nI (show i < 20 by omega) (by decide)) dX1_bestStretch_30 ?_
        refine lv_bipush (v := -8) hx hb dX1_bestStretch_31 (by decide) ?_
        refine lv_icmp_ne (tgt := 43) hx hb dX1_bestStretch_33 (by decide) (fun c33 => ?_) (fun c33 => ?_)
        · refine lv_iconst (v := 0) hx hb dX1_bestStretch_43 (by decide) ?_
          refine lv_istore (lv' := [(4, .int _), (5, .int _), (3, .int _), (2, .int _), (0, .ref _), (1, .int _)]) hx hb dX1_bestStretch_44 hl (by decide) rfl (fun ls hl => ?_)
          refine lv_iload hx hb dX1_bestStretch_46 (lv_at hl 0 rfl) ?_
          refine lv_iload_n hx hb dX1_bestStretch_48 rfl (lv_at hl 2 rfl) ?_
          refine lv_icmp_le (tgt := 63) hx hb dX1_bestStretch_49 (by decide) (fun c49 => ?_) (fun c49 => ?_)
          · refine lv_iinc (lv' := [(5, .int _), (4, .int _), (3, .int _), (2, .int _), (0, .ref _), (1, .int _)]) hx hb dX1_bestStretch_63 hl (k := 1) rfl rfl (by decide) rfl (fun ls hl => ?_)
            refine lv_goto (tgt := 10) hx hb dX1_bestStretch_66 (by decide) ?_
            rw [nI_clamp (by omega)] at c33
            rw [g_inc] at hl
            exact ih (i + 1) s0 b0 0 H locs (by omega) (JB_no hJ (by omega) c33) hP hD hS ls (lv_sub hl [0, 1, 2, 3, 4, 5] rfl)
          · exact absurd (nI_pos' (by omega)) c49
        · refine lv_iload hx hb dX1_bestStretch_36 (lv_at hl 1 rfl) ?_
          refine lv_iconst (v := 1) hx hb dX1_bestStretch_38 (by decide) ?_
          refine lv_iadd hx hb dX1_bestStretch_39 ?_
          refine lv_goto (tgt := 44) hx hb dX1_bestStretch_40 (by decide) ?_
          refine lv_istore (lv' := [(4, .int _), (5, .int _), (3, .int _), (2, .int _), (0, .ref _), (1, .int _)]) hx hb dX1_bestStretch_44 hl (by decide) rfl (fun ls hl => ?_)
          refine lv_iload hx hb dX1_bestStretch_46 (lv_at hl 0 rfl) ?_
          refine lv_iload_n hx hb dX1_bestStretch_48 rfl (lv_at hl 2 rfl) ?_
          refine lv_icmp_le (tgt := 63) hx hb dX1_bestStretch_49 (by decide) (fun c49 => ?_) (fun c49 => ?_)
          · refine lv_iinc (lv' := [(5, .int _), (4, .int _), (3, .int _), (2, .int _), (0, .ref _), (1, .int _)]) hx hb dX1_bestStretch_63 hl (k := 1) rfl rfl (by decide) rfl (fun ls hl => ?_)
            refine lv_goto (tgt := 10) hx hb dX1_bestStretch_66 (by decide) ?_
            rw [nI_clamp (by omega)] at c33
            rw [nI_1] at c49 hl
            rw [g_inc] at hl
            have hnb := (nI_leI (by omega) (by omega)).mp c49
            exact ih (i + 1) s0 b0 (n0 + 1) H locs (by omega) (JB_in hJ (by omega) c33 hnb) hP hD hS ls (lv_sub hl [0, 1, 2, 3, 4, 5] rfl)
          · refine lv_iload hx hb dX1_bestStretch_52 (lv_at hl 0 rfl) ?_
            refine lv_istore_n (lv' := [(3, .int _), (4, .int _), (5, .int _), (2, .int _), (0, .ref _), (1, .int _)]) hx hb dX1_bestStretch_54 rfl hl (by decide) rfl (fun ls hl => ?_)
            refine lv_iload hx hb dX1_bestStretch_55 (lv_at hl 2 rfl) ?_
            refine lv_iconst (v := 1) hx hb dX1_bestStretch_57 (by decide) ?_
            refine lv_iadd hx hb dX1_bestStretch_58 ?_
            refine lv_iload hx hb dX1_bestStretch_59 (lv_at hl 1 rfl) ?_
            refine lv_isub hx hb dX1_bestStretch_61 ?_
            refine lv_istore_n (lv' := [(2, .int _), (3, .int _), (4, .int _), (5, .int _), (0, .ref _), (1, .int _)]) hx hb dX1_bestStretch_62 rfl hl (by decide) rfl (fun ls hl => ?_)
            refine lv_iinc (lv' := [(5, .int _), (2, .int _), (3, .int _), (4, .int _), (0, .ref _), (1, .int _)]) hx hb dX1_bestStretch_63 hl (k := 3) rfl rfl (by decide) rfl (fun ls hl => ?_)
            refine lv_goto (tgt := 10) hx hb dX1_bestStretch_66 (by decide) ?_
            rw [nI_clamp (by omega)] at c33
            rw [nI_1] at c49
            rw [nI_1, nI_1, pk_sub (by omega), g_inc] at hl
            have hnb : b0 < n0 + 1 := Nat.lt_of_not_le (fun q => c49 (nI_le q (by omega)))
            exact ih (i + 1) (i + 1 - (n0 + 1)) (n0 + 1) (n0 + 1) H locs (by omega) (JB_up hJ (by omega) hbw c33 hnb) hP hD hS ls (lv_sub hl [0, 3, 2, 1, 4, 5] rfl)
set_option maxHeartbeats 4000000 in
set_option maxRecDepth 100000 in
/-- Row.bestStretch(w) -/
theorem c_best (l : Launch) (D : va_G) (K : gCl) (ws : va_W) (a o q0 q1 z : Nat) (sd ho bk : Int32) (f : Nat → Int32) (w : Nat) (sz : Nat) (hw : w < 2 ^ 20) (hz : z ≤ 20) (he0 : ws[q0]? = some (a, gRow o (nI z) sd ho bk)) (he1 : ws[q1]? = some (o, gArr K.1 20 f)) : gMi l yX1_bestStretch wsX1_bestStretch ({ frames := 0, cells := 0, slots := 0, locals := 0 } : Room) D vwCl (gT K) [.ref a, .int (nI w)] (ws) sz (fun r w1 => w1 = ws ∧ ∃ x : Nat, r = nI x ∧ isBs f z w x) 0 0 := by
  refine g_of (cc := cX1_bestStretch) (maxL := 6) (ret := (some .int)) (Qc := fun A => va_Qi (fun r w1 => w1 = ws ∧ ∃ x : Nat, r = nI x ∧ isBs f z w x) (gB D vwCl (gT K) A) A) (by decide) rfl (Nat.le_of_ble_eq_true rfl) ?_
  intro p e s m below meth c A ls I hl
  have I0 := I
  obtain ⟨hx, hb, hr, hml, hown, hts, hlocks, hnm, hA, hK, hP, hD, hS⟩ := I
  have hown : s.vm.findClass RX1 = some m.cls := hown
  have hl : lv_has ls 6 [(0, .ref a), (1, .int (nI w))] := hl
  have hi_X1 : ∀ w ∈ u_ws RX1 TX1 5, w ∈ wsX1_bestStretch := by decide +kernel
  refine lv_iconst (v := 0) hx hb dX1_bestStretch_0 (by decide) ?_
  refine lv_istore_n (lv' := [(2, .int _), (0, .ref _), (1, .int _)]) hx hb dX1_bestStretch_1 rfl hl (by decide) rfl (fun ls hl => ?_)
  refine lv_iconst (v := 0) hx hb dX1_bestStretch_2 (by decide) ?_
  refine lv_istore_n (lv' := [(3, .int _), (2, .int _), (0, .ref _), (1, .int _)]) hx hb dX1_bestStretch_3 rfl hl (by decide) rfl (fun ls hl => ?_)
  refine lv_iconst (v := 0) hx hb dX1_bestStretch_4 (by decide) ?_
  refine lv_istore (lv' := [(4, .int _), (3, .int _), (2, .int _), (0, .ref _), (1, .int _)]) hx hb dX1_bestStretch_5 hl (by decide) rfl (fun ls hl => ?_)
  refine lv_iconst (v := 0) hx hb dX1_bestStretch_7 (by decide) ?_
  refine lv_istore (lv' := [(5, .int _), (4, .int _), (3, .int _), (2, .int _), (0, .ref _), (1, .int _)]) hx hb dX1_bestStretch_8 hl (by decide) rfl (fun ls hl => ?_)
  exact lp_best hw hz he0 he1 I0 z 0 0 0 0 _ _ (by omega) JB_0 hP hD hS ls (lv_sub hl [0, 1, 2, 3, 4, 5] rfl)
set_option maxHeartbeats 4000000 in
set_option maxRecDepth 100000 in
theorem lp_take {p : Program} {l : Launch} {e : Env} {s : State} {m : MethodId} {args : Array Value} {below : List Frame} {meth : Method} {c : Code} {A : Nat → Prop} {D : va_G} {K : gCl} {ws0 : va_W} {rm : Room} {wsF : va_W} {a o q0 q1 z w s0 tF : Nat} {sd ho bk b : Int32} (hne : q0 ≠ q1) (hw : w < 2 ^ 20) (hz : z ≤ 20)
    (I : gIn p s m meth c A yX1_take wsX1_take cX1_take 7 (some .int) args D vwCl (gT K) ws0)  :
    ∀ (k : Nat) (i n t : Nat) (g : Nat → Int32) (ws : va_W) (H : Heap) (locs : List Loc), i + k = z → n ≤ w → t < 2 ^ i → ws[q0]? = some (a, gRow o (nI z) sd ho bk) → ws[q1]? = some (o, gArr K.1 20 g) → ws.set q1 (o, gArr K.1 20 (mkF b k i (lim sd g k i (w - n)) g)) = wsF → mkT g k i (lim sd g k i (w - n)) t = tF → va_P D vwCl (ws) H → va_D A (ws) → va_S A s.heap H locs →
    ∀ (ls : Array Slot), lv_has ls 7 [(6, .int (nI i)), (5, .int (nI n)), (4, .int (nI t)), (3, .int (nI s0)), (0, .ref a), (1, .int (nI w)), (2, .int b)] →
    W p l e rm s m args below meth c H locs 0 0 (MQ below (va_Qi (fun r w1 => w1 = wsF ∧ r = nI tF) (gB D vwCl (gT K) A) A) args s 0 0 A) (F0 m 26 ls []) := by
  have I0 := I
  obtain ⟨hx, hb, hr, hml, hown, hts, hlocks, hnm, hA, hK, -, -, -⟩ := I
  have hown : s.vm.findClass RX1 = some m.cls := hown
  have hi_X1 : ∀ w ∈ u_ws RX1 TX1 5, w ∈ wsX1_take := by decide +kernel
  intro k
  induction k with
  | zero =>
    intro i n t g ws H locs hi hn ht he0 he1 hF hT hP hD hS ls hl
    refine lv_iload hx hb dX1_take_26 (lv_at hl 0 rfl) ?_
    refine lv_aload_n hx hb dX1_take_28 rfl (lv_at hl 4 rfl) ?_
    refine va_get (C := RX1) (T := TX1) (N := 5) (ci := 1) hx hb hts hi_X1 hown hK hP (q0) (he0) rfl 1 (by decide) (hts (.fieldLink RX1 15 "GroupSeats$Row" "size" "I") (by decide +kernel)) (fun _ h9 => h9) rfl dX1_take_29 ?_
    refine lv_icmp_ge (tgt := 92) hx hb dX1_take_32 (by decide) (fun c32 => ?_) (fun c32 => ?_)
    · refine lv_iload hx hb dX1_take_92 (lv_at hl 2 rfl) ?_
      exact g_iret hx hb hr hlocks (Nat.le_of_ble_eq_true rfl) (Nat.le_of_ble_eq_true rfl) hK hP hD hS dX1_take_94 (⟨(g_setid he1).symm.trans hF, by rw [← hT]; rfl⟩)
    · exact absurd (nI_le (by omega) (by omega)) c32
  | succ k ih =>
    intro i n t g ws H locs hi hn ht he0 he1 hF hT hP hD hS ls hl
    refine lv_iload hx hb dX1_take_26 (lv_at hl 0 rfl) ?_
    refine lv_aload_n hx hb dX1_take_28 rfl (lv_at hl 4 rfl) ?_
    refine va_get (C := RX1) (T := TX1) (N := 5) (ci := 1) hx hb hts hi_X1 hown hK hP (q0) (he0) rfl 1 (by decide) (hts (.fieldLink RX1 15 "GroupSeats$Row" "size" "I") (by decide +kernel)) (fun _ h9 => h9) rfl dX1_take_29 ?_
    refine lv_icmp_ge (tgt := 92) hx hb dX1_take_32 (by decide) (fun c32 => ?_) (fun c32 => ?_)
    · exact absurd c32 (nI_ge (by omega) (by omega))
    · refine lv_iload hx hb dX1_take_35 (lv_at hl 1 rfl) ?_
      refine lv_iload_n hx hb dX1_take_37 rfl (lv_at hl 5 rfl) ?_
      refine lv_icmp_ge (tgt := 92) hx hb dX1_take_38 (by decide) (fun c38 => ?_) (fun c38 => ?_)
      · refine lv_iload hx hb dX1_take_92 (lv_at hl 2 rfl) ?_
        exact g_iret hx hb hr hlocks (Nat.le_of_ble_eq_true rfl) (Nat.le_of_ble_eq_true rfl) hK hP hD hS dX1_take_94 (by have e0 : w - n = 0 := (by have := (nI_leI (by omega) (by omega)).mp c38; omega); rw [e0, lim_0, mkF_0] at hF; rw [e0, lim_0, mkT_0] at hT; exact ⟨(g_setid he1).symm.trans hF, by rw [hT]⟩)
      · have hnw : n < w := Nat.lt_of_not_le (fun q => c38 (nI_le q (by omega)))
        refine lv_aload_n hx hb dX1_take_41 rfl (lv_at hl 4 rfl) ?_
        refine va_get (C := RX1) (T := TX1) (N := 5) (ci := 1) hx hb hts hi_X1 hown hK hP (q0) (he0) rfl 0 (by decide) (hts (.fieldLink RX1 9 "GroupSeats$Row" "owners" "[I") (by decide +kernel)) (fun _ h9 => h9) rfl dX1_take_42 ?_
        refine lv_iload hx hb dX1_take_45 (lv_at hl 0 rfl) ?_
        refine va_iald hx hb hK hP (q1) 0 (he1) rfl (vp_in_nI (show i < 20 by omega) (by decide)) dX1_take_47 ?_
        refine lv_bipush (v := -8) hx hb dX1_take_48 (by decide) ?_
        refine lv_icmp_ne (tgt := 76) hx hb dX1_take_50 (by decide) (fun c50 => ?_) (fun c50 => ?_)
        · refine lv_aload_n hx hb dX1_take_76 rfl (lv_at hl 4 rfl) ?_
          refine va_get (C := RX1) (T := TX1) (N := 5) (ci := 1) hx hb hts hi_X1 hown hK hP (q0) (he0) rfl 2 (by decide) (hts (.fieldLink RX1 19 "GroupSeats$Row" "sideBySide" "Z") (by decide +kernel)) (fun _ h9 => h9) rfl dX1_take_77 ?_
          refine lv_if_eq (tgt := 86) hx hb dX1_take_80 (by decide) (fun c80 => ?_) (fun c80 => ?_)
          · refine lv_iinc (lv' := [(6, .int _), (5, .int _), (4, .int _), (3, .int _), (0, .ref _), (1, .int _), (2, .int _)]) hx hb dX1_take_86 hl (k := 0) rfl rfl (by decide) rfl (fun ls hl => ?_)
            refine lv_goto (tgt := 26) hx hb dX1_take_89 (by decide) ?_
            rw [nI_clamp (by omega)] at c50
            obtain ⟨e1, e2⟩ := tk_no (b := b) (k := k) (c := w - n) (t := t) c80 c50
            rw [e1] at hF
            rw [e2] at hT
            rw [g_inc] at hl
            exact ih (i + 1) n t g ws H locs (by omega) hn (by have := Nat.pow_lt_pow_right (a := 2) (by decide) (show i < i + 1 by omega); omega) he0 he1 hF hT hP hD hS ls (lv_sub hl [0, 1, 2, 3, 4, 5, 6] rfl)
          · refine lv_goto (tgt := 92) hx hb dX1_take_83 (by decide) ?_
            refine lv_iload hx hb dX1_take_92 (lv_at hl 2 rfl) ?_
            exact g_iret hx hb hr hlocks (Nat.le_of_ble_eq_true rfl) (Nat.le_of_ble_eq_true rfl) hK hP hD hS dX1_take_94 (by rw [nI_clamp (by omega)] at c50; rw [lim_stop c80 c50, mkF_0] at hF; rw [lim_stop c80 c50, mkT_0] at hT; exact ⟨(g_setid he1).symm.trans hF, by rw [hT]⟩)
        · refine lv_aload_n hx hb dX1_take_53 rfl (lv_at hl 4 rfl) ?_
          refine va_get (C := RX1) (T := TX1) (N := 5) (ci := 1) hx hb hts hi_X1 hown hK hP (q0) (he0) rfl 0 (by decide) (hts (.fieldLink RX1 9 "GroupSeats$Row" "owners" "[I") (by decide +kernel)) (fun _ h9 => h9) rfl dX1_take_54 ?_
          refine lv_iload hx hb dX1_take_57 (lv_at hl 0 rfl) ?_
          refine lv_iload_n hx hb dX1_take_59 rfl (lv_at hl 6 rfl) ?_
          refine va_iast hx hb hK hP hD hS (q1) 0 (he1) rfl (vp_in_nI (show i < 20 by omega) (by decide)) dX1_take_60 (fun H locs hP hD hS => ?_)
          refine lv_iload hx hb dX1_take_61 (lv_at hl 2 rfl) ?_
          refine lv_iconst (v := 1) hx hb dX1_take_63 (by decide) ?_
          refine lv_iload hx hb dX1_take_64 (lv_at hl 0 rfl) ?_
          refine lv_ishl hx hb dX1_take_66 ?_
          refine lv_ior hx hb dX1_take_67 ?_
          refine lv_istore (lv' := [(4, .int _), (6, .int _), (5, .int _), (3, .int _), (0, .ref _), (1, .int _), (2, .int _)]) hx hb dX1_take_68 hl (by decide) rfl (fun ls hl => ?_)
          refine lv_iinc (lv' := [(5, .int _), (4, .int _), (6, .int _), (3, .int _), (0, .ref _), (1, .int _), (2, .int _)]) hx hb dX1_take_70 hl (k := 2) rfl rfl (by decide) rfl (fun ls hl => ?_)
          refine lv_goto (tgt := 86) hx hb dX1_take_73 (by decide) ?_
          refine lv_iinc (lv' := [(6, .int _), (5, .int _), (4, .int _), (3, .int _), (0, .ref _), (1, .int _), (2, .int _)]) hx hb dX1_take_86 hl (k := 2) rfl rfl (by decide) rfl (fun ls hl => ?_)
          refine lv_goto (tgt := 26) hx hb dX1_take_89 (by decide) ?_
          rw [nI_clamp (by omega)] at c50
          have hc1 : w - n = (w - (n + 1)) + 1 := by omega
          rw [hc1] at hF hT
          obtain ⟨e1, e2⟩ := tk_yes (b := b) (sd := sd) (k := k) (c := w - (n + 1)) (t := t) c50
          rw [e1] at hF
          rw [e2] at hT
          rw [nI_clamp (by omega)] at hP hD
          rw [or_bit ht (by omega), g_inc, g_inc] at hl
          exact ih (i + 1) (n + 1) (t + 2 ^ i) (upd g i b) _ H locs (by omega) (by omega) (by rw [Nat.pow_succ]; omega) (g_setne (Ne.symm hne) he0) (g_setself he1) (by rw [List.set_set]; exact hF) hT hP hD hS ls (lv_sub hl [0, 1, 2, 3, 4, 5, 6] rfl)
set_option maxHeartbeats 4000000 in
set_option maxRecDepth 100000 in
/-- Row.take(w, b) -/
theorem c_take (l : Launch) (D : va_G) (K : gCl) (ws : va_W) (a o q0 q1 z : Nat) (sd ho bk : Int32) (f : Nat → Int32) (w : Nat) (b : Int32) (sz : Nat) (hne : q0 ≠ q1) (hw : w < 2 ^ 20) (hz : z ≤ 20) (he0 : ws[q0]? = some (a, gRow o (nI z) sd ho bk)) (he1 : ws[q1]? = some (o, gArr K.1 20 f)) : gMi l yX1_take wsX1_take ({ frames := 1, cells := 0, slots := 0, locals := 40 } : Room) D vwCl (gT K) [.ref a, .int (nI w), .int b] (ws) sz (fun r w1 => w1 = ws.set q1 (o, gArr K.1 20 (tkF b f z sd w)) ∧ r = nI (mkT f (z - tkS f z sd w) (tkS f z sd w) (tkN f z sd w) 0)) 0 0 := by
  refine g_of (cc := cX1_take) (maxL := 7) (ret := (some .int)) (Qc := fun A => va_Qi (fun r w1 => w1 = ws.set q1 (o, gArr K.1 20 (tkF b f z sd w)) ∧ r = nI (mkT f (z - tkS f z sd w) (tkS f z sd w) (tkN f z sd w) 0)) (gB D vwCl (gT K) A) A) (by decide) rfl (Nat.le_of_ble_eq_true rfl) ?_
  intro p e s m below meth c A ls I hl
  have I0 := I
  obtain ⟨hx, hb, hr, hml, hown, hts, hlocks, hnm, hA, hK, hP, hD, hS⟩ := I
  have hown : s.vm.findClass RX1 = some m.cls := hown
  have hl : lv_has ls 7 [(0, .ref a), (1, .int (nI w)), (2, .int b)] := hl
  have hi_X1 : ∀ w ∈ u_ws RX1 TX1 5, w ∈ wsX1_take := by decide +kernel
  refine lv_aload_n hx hb dX1_take_0 rfl (lv_at hl 0 rfl) ?_
  refine va_get (C := RX1) (T := TX1) (N := 5) (ci := 1) hx hb hts hi_X1 hown hK hP (q0) (he0) rfl 2 (by decide) (hts (.fieldLink RX1 19 "GroupSeats$Row" "sideBySide" "Z") (by decide +kernel)) (fun _ h9 => h9) rfl dX1_take_1 ?_
  refine lv_if_eq (tgt := 15) hx hb dX1_take_4 (by decide) (fun c4 => ?_) (fun c4 => ?_)
  · refine lv_iconst (v := 0) hx hb dX1_take_15 (by decide) ?_
    refine lv_istore_n (lv' := [(3, .int _), (0, .ref _), (1, .int _), (2, .int _)]) hx hb dX1_take_16 rfl hl (by decide) rfl (fun ls hl => ?_)
    refine lv_iconst (v := 0) hx hb dX1_take_17 (by decide) ?_
    refine lv_istore (lv' := [(4, .int _), (3, .int _), (0, .ref _), (1, .int _), (2, .int _)]) hx hb dX1_take_18 hl (by decide) rfl (fun ls hl => ?_)
    refine lv_iconst (v := 0) hx hb dX1_take_20 (by decide) ?_
    refine lv_istore (lv' := [(5, .int _), (4, .int _), (3, .int _), (0, .ref _), (1, .int _), (2, .int _)]) hx hb dX1_take_21 hl (by decide) rfl (fun ls hl => ?_)
    refine lv_iload_n hx hb dX1_take_23 rfl (lv_at hl 2 rfl) ?_
    refine lv_istore (lv' := [(6, .int _), (5, .int _), (4, .int _), (3, .int _), (0, .ref _), (1, .int _), (2, .int _)]) hx hb dX1_take_24 hl (by decide) rfl (fun ls hl => ?_)
    have es : tkS f z sd w = 0 := if_pos c4
    have en : lim sd f (z - 0) 0 (w - 0) = tkN f z sd w := by unfold lim tkN; rw [if_pos c4, if_pos c4]; rfl
    exact lp_take (s0 := 0) (wsF := ws.set q1 (o, gArr K.1 20 (tkF b f z sd w))) (tF := mkT f (z - tkS f z sd w) (tkS f z sd w) (tkN f z sd w) 0) hne hw hz I0 (z - 0) 0 0 0 f ws _ _ (by omega) (by omega) (by omega) he0 he1 (by rw [en]; unfold tkF; rw [es]) (by rw [en, es]) hP hD hS ls (lv_sub hl [0, 1, 2, 3, 4, 5, 6] rfl)
  · refine lv_aload_n hx hb dX1_take_7 rfl (lv_at hl 0 rfl) ?_
    refine lv_iload_n hx hb dX1_take_8 rfl (lv_at hl 1 rfl) ?_
    refine g_calli (va_runV (As := [.int _]) (rest := []) ⟨hx, hb, hml, hown, hts⟩ (c_best l D K ws a o q0 q1 z sd ho bk f w _ hw hz he0 he1) (cwV 1 hts gX1_take_X1_bestStretch rfl rfl rfl (by decide +kernel) ⟨(Nat.le_of_ble_eq_true rfl), (Nat.le_of_ble_eq_true rfl)⟩) (g_preV hK hP hD (ci := 1) (q0 := q0) rfl (he0)) rfl rfl hl.1 rfl (lv_room (Nat.le_of_ble_eq_true rfl)) dX1_take_9 ⟨Nat.zero_le _, Nat.zero_le _⟩) hD hS hA (fun r9 w9 H locs hw9 hP hD hS => ?_)
    obtain ⟨ew, x, rfl, hx1⟩ := hw9
    rw [ew] at hP hD
    refine lv_goto (tgt := 16) hx hb dX1_take_12 (by decide) ?_
    refine lv_istore_n (lv' := [(3, .int _), (0, .ref _), (1, .int _), (2, .int _)]) hx hb dX1_take_16 rfl hl (by decide) rfl (fun ls hl => ?_)
    refine lv_iconst (v := 0) hx hb dX1_take_17 (by decide) ?_
    refine lv_istore (lv' := [(4, .int _), (3, .int _), (0, .ref _), (1, .int _), (2, .int _)]) hx hb dX1_take_18 hl (by decide) rfl (fun ls hl => ?_)
    refine lv_iconst (v := 0) hx hb dX1_take_20 (by decide) ?_
    refine lv_istore (lv' := [(5, .int _), (4, .int _), (3, .int _), (0, .ref _), (1, .int _), (2, .int _)]) hx hb dX1_take_21 hl (by decide) rfl (fun ls hl => ?_)
    refine lv_iload_n hx hb dX1_take_23 rfl (lv_at hl 2 rfl) ?_
    refine lv_istore (lv' := [(6, .int _), (5, .int _), (4, .int _), (3, .int _), (0, .ref _), (1, .int _), (2, .int _)]) hx hb dX1_take_24 hl (by decide) rfl (fun ls hl => ?_)
    have es : tkS f z sd w = x := by unfold tkS; rw [if_neg c4]; exact (isBs_eq hx1).symm
    have en : lim sd f (z - x) x (w - 0) = tkN f z sd w := by unfold lim tkN valS; rw [if_neg c4, if_neg c4, ← isBs_eq hx1]; rfl
    have hxz := hx1.1
    exact lp_take (s0 := x) (wsF := ws.set q1 (o, gArr K.1 20 (tkF b f z sd w))) (tF := mkT f (z - tkS f z sd w) (tkS f z sd w) (tkN f z sd w) 0) hne hw hz I0 (z - x) x 0 0 f ws _ _ (by omega) (by omega) (Nat.two_pow_pos x) he0 he1 (by rw [en]; unfold tkF; rw [es]) (by rw [en, es]) hP hD hS ls (lv_sub hl [0, 1, 2, 3, 4, 5, 6] rfl)
set_option maxHeartbeats 4000000 in
set_option maxRecDepth 100000 in
/-- Integer.bitCount -/
theorem c_bitCount (l : Launch) (D : va_G) (K : gCl) (ws : va_W) (t : Nat) (sz : Nat) (ht : t < 2 ^ 20) : gMi l yJ6_bitCount_0f7a4 wsJ6_bitCount_0f7a4 ({ frames := 0, cells := 0, slots := 0, locals := 0 } : Room) D vwCl (gT K) [.int (nI t)] (ws) sz (fun r w1 => w1 = ws ∧ r = nI (pcN t 20)) 0 0 := by
  refine g_of (cc := cJ6_bitCount_0f7a4) (maxL := 1) (ret := (some .int)) (Qc := fun A => va_Qi (fun r w1 => w1 = ws ∧ r = nI (pcN t 20)) (gB D vwCl (gT K) A) A) (by decide) rfl (Nat.le_of_ble_eq_true rfl) ?_
  intro p e s m below meth c A ls I hl
  have I0 := I
  obtain ⟨hx, hb, hr, hml, hown, hts, hlocks, hnm, hA, hK, hP, hD, hS⟩ := I
  have hown : s.vm.findClass RJ6 = some m.cls := hown
  have hl : lv_has ls 1 [(0, .int (nI t))] := hl
  obtain ⟨x1, x2, x3, x4, x5, e1, e2, e3, e4, e5, e6, l1, l2, l3, l4, l5, l6⟩ := bc_all ht
  refine lv_iload_n hx hb dJ6_bitCount_0f7a4_0 rfl (lv_at hl 0 rfl) ?_
  refine lv_iload_n hx hb dJ6_bitCount_0f7a4_1 rfl (lv_at hl 0 rfl) ?_
  refine lv_iconst (v := 1) hx hb dJ6_bitCount_0f7a4_2 (by decide) ?_
  refine lv_iushr hx hb dJ6_bitCount_0f7a4_3 rfl ?_
  refine lv_ldcw hx hb hown (hts (.constant RJ6 265 (1431655765)) (by decide +kernel)) dJ6_bitCount_0f7a4_4 ?_
  refine lv_iand hx hb dJ6_bitCount_0f7a4_7 ?_
  refine lv_isub hx hb dJ6_bitCount_0f7a4_8 ?_
  refine lv_istore_n (lv' := [(0, .int _)]) hx hb dJ6_bitCount_0f7a4_9 rfl hl (by decide) rfl (fun ls hl => ?_)
  rw [bw_1 (by omega) e1] at hl
  refine lv_iload_n hx hb dJ6_bitCount_0f7a4_10 rfl (lv_at hl 0 rfl) ?_
  refine lv_ldcw hx hb hown (hts (.constant RJ6 266 (858993459)) (by decide +kernel)) dJ6_bitCount_0f7a4_11 ?_
  refine lv_iand hx hb dJ6_bitCount_0f7a4_14 ?_
  refine lv_iload_n hx hb dJ6_bitCount_0f7a4_15 rfl (lv_at hl 0 rfl) ?_
  refine lv_iconst (v := 2) hx hb dJ6_bitCount_0f7a4_16 (by decide) ?_
  refine lv_iushr hx hb dJ6_bitCount_0f7a4_17 rfl ?_
  refine lv_ldcw hx hb hown (hts (.constant RJ6 266 (858993459)) (by decide +kernel)) dJ6_bitCount_0f7a4_18 ?_
  refine lv_iand hx hb dJ6_bitCount_0f7a4_21 ?_
  refine lv_iadd hx hb dJ6_bitCount_0f7a4_22 ?_
  refine lv_istore_n (lv' := [(0, .int _)]) hx hb dJ6_bitCount_0f7a4_23 rfl hl (by decide) rfl (fun ls hl => ?_)
  rw [bw_2 l1 e2] at hl
  refine lv_iload_n hx hb dJ6_bitCount_0f7a4_24 rfl (lv_at hl 0 rfl) ?_
  refine lv_iload_n hx hb dJ6_bitCount_0f7a4_25 rfl (lv_at hl 0 rfl) ?_
  refine lv_iconst (v := 4) hx hb dJ6_bitCount_0f7a4_26 (by decide) ?_
  refine lv_iushr hx hb dJ6_bitCount_0f7a4_27 rfl ?_
  refine lv_iadd hx hb dJ6_bitCount_0f7a4_28 ?_
  refine lv_ldcw hx hb hown (hts (.constant RJ6 267 (252645135)) (by decide +kernel)) dJ6_bitCount_0f7a4_29 ?_
  refine lv_iand hx hb dJ6_bitCount_0f7a4_32 ?_
  refine lv_istore_n (lv' := [(0, .int _)]) hx hb dJ6_bitCount_0f7a4_33 rfl hl (by decide) rfl (fun ls hl => ?_)
  rw [bw_3 l2 e3] at hl
  refine lv_iload_n hx hb dJ6_bitCount_0f7a4_34 rfl (lv_at hl 0 rfl) ?_
  refine lv_iload_n hx hb dJ6_bitCount_0f7a4_35 rfl (lv_at hl 0 rfl) ?_
  refine lv_bipush (v := 8) hx hb dJ6_bitCount_0f7a4_36 (by decide) ?_
  refine lv_iushr hx hb dJ6_bitCount_0f7a4_38 rfl ?_
  refine lv_iadd hx hb dJ6_bitCount_0f7a4_39 ?_
  refine lv_istore_n (lv' := [(0, .int _)]) hx hb dJ6_bitCount_0f7a4_40 rfl hl (by decide) rfl (fun ls hl => ?_)
  rw [bw_4 l3 e4] at hl
  refine lv_iload_n hx hb dJ6_bitCount_0f7a4_41 rfl (lv_at hl 0 rfl) ?_
  refine lv_iload_n hx hb dJ6_bitCount_0f7a4_42 rfl (lv_at hl 0 rfl) ?_
  refine lv_bipush (v := 16) hx hb dJ6_bitCount_0f7a4_43 (by decide) ?_
  refine lv_iushr hx hb dJ6_bitCount_0f7a4_45 rfl ?_
  refine lv_iadd hx hb dJ6_bitCount_0f7a4_46 ?_
  refine lv_istore_n (lv' := [(0, .int _)]) hx hb dJ6_bitCount_0f7a4_47 rfl hl (by decide) rfl (fun ls hl => ?_)
  rw [bw_5 l4 e5] at hl
  refine lv_iload_n hx hb dJ6_bitCount_0f7a4_48 rfl (lv_at hl 0 rfl) ?_
  refine lv_bipush (v := 63) hx hb dJ6_bitCount_0f7a4_49 (by decide) ?_
  refine lv_iand hx hb dJ6_bitCount_0f7a4_51 ?_
  exact g_iret hx hb hr hlocks (Nat.le_of_ble_eq_true rfl) (Nat.le_of_ble_eq_true rfl) hK hP hD hS dJ6_bitCount_0f7a4_52 (⟨rfl, by rw [bw_6, e6]⟩)
