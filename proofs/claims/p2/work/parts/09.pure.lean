/-! PURE WORDS: seats of a row as f : Nat → Int32; a free one is -8 -/
def cntV (f : Nat → Int32) (v : Int32) : Nat → Nat
  | 0 => 0
  | n + 1 => cntV f v n + (if f n = v then 1 else 0)
theorem cntV_le (f : Nat → Int32) (v : Int32) : ∀ n, cntV f v n ≤ n
  | 0 => Nat.le_refl 0
  | n + 1 => by
    have := cntV_le f v n
    unfold cntV
    split <;> omega
def freeV (f : Nat → Int32) (v : Int32) (n : Nat) : Nat → Int32 := fun j => if j < n ∧ f j = v then -8 else f j
theorem freeV_0 (f : Nat → Int32) (v : Int32) : freeV f v 0 = f := by funext j; simp [freeV]
theorem freeV_at (f : Nat → Int32) (v : Int32) (n : Nat) : freeV f v n n = f n := by simp [freeV]
theorem freeV_yes {f : Nat → Int32} {v : Int32} {n : Nat} (h : f n = v) : upd (freeV f v n) n (-8) = freeV f v (n + 1) := by
  funext j
  by_cases hj : j = n
  · subst hj
    simp [upd, freeV, h]
  · by_cases h2 : j < n
    · simp [upd, freeV, hj, h2, show j < n + 1 by omega]
    · simp [upd, freeV, hj, h2, show ¬ j < n + 1 by omega]
theorem freeV_no {f : Nat → Int32} {v : Int32} {n : Nat} (h : f n ≠ v) : freeV f v n = freeV f v (n + 1) := by
  funext j
  by_cases hj : j = n
  · subst hj
    simp [freeV, h]
  · by_cases h2 : j < n
    · simp [freeV, h2, show j < n + 1 by omega]
    · simp [freeV, h2, show ¬ j < n + 1 by omega]
/-- how many free seats stand side by side from i on, n seats being left -/
def runL (f : Nat → Int32) : Nat → Nat → Nat
  | 0, _ => 0
  | n + 1, i => if f i = -8 then runL f n (i + 1) + 1 else 0
theorem runL_le (f : Nat → Int32) : ∀ n i, runL f n i ≤ n
  | 0, _ => Nat.le_refl 0
  | n + 1, i => by
    have := runL_le f n (i + 1)
    unfold runL
    split <;> omega
theorem runL_free (f : Nat → Int32) : ∀ n i k, i ≤ k → k < i + runL f n i → f k = -8
  | 0, i, k, h1, h2 => by unfold runL at h2; omega
  | n + 1, i, k, h1, h2 => by
    unfold runL at h2
    split at h2
    · rename_i hf
      by_cases hk : k = i
      · rw [hk]; exact hf
      · exact runL_free f n (i + 1) k (by omega) (by omega)
    · omega
theorem runL_ge (f : Nat → Int32) : ∀ n i m, m ≤ n → (∀ k, i ≤ k → k < i + m → f k = -8) → m ≤ runL f n i
  | 0, i, m, h1, _ => by unfold runL; omega
  | n + 1, i, m, h1, h2 => by
    match m with
    | 0 => exact Nat.zero_le _
    | m + 1 =>
      unfold runL
      rw [if_pos (h2 i (Nat.le_refl i) (by omega))]
      have := runL_ge f n (i + 1) m (by omega) (fun k a b => h2 k (by omega) (by omega))
      omega
theorem runL_lt {f : Nat → Int32} {n i j : Nat} (h1 : i ≤ j) (h : f j ≠ -8) : runL f n i ≤ j - i := by
  rcases Nat.lt_or_ge (j - i) (runL f n i) with q | q
  · exact absurd (runL_free f n i j h1 (by omega)) h
  · exact q
theorem runL_congr {f g : Nat → Int32} : ∀ n i, (∀ k, i ≤ k → f k = g k) → runL f n i = runL g n i
  | 0, _, _ => rfl
  | n + 1, i, h => by
    unfold runL
    rw [h i (Nat.le_refl i), runL_congr n (i + 1) (fun k hk => h k (by omega))]
/-- the first c free seats from i on, n seats being left, go to b -/
def mkF (b : Int32) : Nat → Nat → Nat → (Nat → Int32) → (Nat → Int32)
  | 0, _, _, f => f
  | n + 1, i, c, f => if c = 0 then f else if f i = -8 then mkF b n (i + 1) (c - 1) (upd f i b) else mkF b n (i + 1) c f
def mkC (f : Nat → Int32) : Nat → Nat → Nat → Nat
  | 0, _, _ => 0
  | n + 1, i, c => if c = 0 then 0 else if f i = -8 then mkC f n (i + 1) (c - 1) + 1 else mkC f n (i + 1) c
def mkT (f : Nat → Int32) : Nat → Nat → Nat → Nat → Nat
  | 0, _, _, t => t
  | n + 1, i, c, t => if c = 0 then t else if f i = -8 then mkT f n (i + 1) (c - 1) (t + 2 ^ i) else mkT f n (i + 1) c t
theorem mkF_0 {b : Int32} {n i : Nat} {f : Nat → Int32} : mkF b n i 0 f = f := by cases n <;> simp [mkF]
theorem mkC_0 {n i : Nat} {f : Nat → Int32} : mkC f n i 0 = 0 := by cases n <;> simp [mkC]
theorem mkT_0 {n i t : Nat} {f : Nat → Int32} : mkT f n i 0 t = t := by cases n <;> simp [mkT]
theorem mkC_congr {f g : Nat → Int32} : ∀ n i c, (∀ k, i ≤ k → f k = g k) → mkC f n i c = mkC g n i c
  | 0, _, _, _ => rfl
  | n + 1, i, c, h => by
    unfold mkC
    rw [h i (Nat.le_refl i), mkC_congr n (i + 1) (c - 1) (fun k hk => h k (by omega)), mkC_congr n (i + 1) c (fun k hk => h k (by omega))]
theorem mkT_congr {f g : Nat → Int32} : ∀ n i c t, (∀ k, i ≤ k → f k = g k) → mkT f n i c t = mkT g n i c t
  | 0, _, _, _, _ => rfl
  | n + 1, i, c, t, h => by
    unfold mkT
    rw [h i (Nat.le_refl i), mkT_congr n (i + 1) (c - 1) (t + 2 ^ i) (fun k hk => h k (by omega)), mkT_congr n (i + 1) c t (fun k hk => h k (by omega))]
theorem upd_after {f : Nat → Int32} {i : Nat} {b : Int32} : ∀ k, i + 1 ≤ k → upd f i b k = f k := fun k hk => by simp [upd, show k ≠ i by omega]
theorem mkC_le (f : Nat → Int32) : ∀ n i c, mkC f n i c ≤ c
  | 0, _, _ => Nat.zero_le _
  | n + 1, i, c => by
    unfold mkC
    have h1 := mkC_le f n (i + 1) (c - 1)
    have h2 := mkC_le f n (i + 1) c
    split
    · omega
    · split <;> omega
/-- what is given was free, and lies in reach; all else stays -/
theorem mkF_at (b : Int32) : ∀ n i c (f : Nat → Int32) j, mkF b n i c f j = f j ∨ (mkF b n i c f j = b ∧ f j = -8 ∧ i ≤ j ∧ j < i + n)
  | 0, _, _, _, _ => Or.inl rfl
  | n + 1, i, c, f, j => by
    unfold mkF
    split
    · exact Or.inl rfl
    · split
      · rename_i hf
        rcases mkF_at b n (i + 1) (c - 1) (upd f i b) j with h | ⟨h1, h2, h3, h4⟩
        · by_cases hj : j = i
          · subst hj
            exact Or.inr ⟨by rw [h]; simp [upd], hf, by omega, by omega⟩
          · rw [h]
            exact Or.inl (by simp [upd, hj])
        · have : j ≠ i := by omega
          exact Or.inr ⟨h1, by simpa [upd, this] using h2, by omega, by omega⟩
      · rcases mkF_at b n (i + 1) c f j with h | ⟨h1, h2, h3, h4⟩
        · exact Or.inl h
        · exact Or.inr ⟨h1, h2, by omega, by omega⟩
theorem mkT_lt (f : Nat → Int32) : ∀ n i c t, t < 2 ^ i → mkT f n i c t < 2 ^ (i + n)
  | 0, i, _, t, h => h
  | n + 1, i, c, t, h => by
    have e : 2 ^ (i + 1) = 2 ^ i + 2 ^ i := by rw [Nat.pow_succ]; omega
    have up : 2 ^ i ≤ 2 ^ (i + (n + 1)) := Nat.pow_le_pow_right (by decide) (by omega)
    unfold mkT
    split
    · omega
    · split
      · have := mkT_lt f n (i + 1) (c - 1) (t + 2 ^ i) (by omega)
        rw [show i + 1 + n = i + (n + 1) by omega] at this
        exact this
      · have := mkT_lt f n (i + 1) c t (by omega)
        rw [show i + 1 + n = i + (n + 1) by omega] at this
        exact this
theorem tb_add {t i j : Nat} (h : t < 2 ^ i) : (t + 2 ^ i).testBit j = (t.testBit j || decide (j = i)) := by
  have e := Nat.testBit_two_pow_mul_add (a := 1) (b := t) (i := i) h j
  rw [Nat.mul_one, Nat.add_comm] at e
  rw [e]
  by_cases h1 : j < i
  · simp [h1, show j ≠ i by omega]
  · have h2 : t.testBit j = false := Nat.testBit_lt_two_pow (Nat.lt_of_lt_of_le h (Nat.pow_le_pow_right (by decide) (by omega)))
    rw [if_neg h1, h2]
    by_cases h3 : j = i
    · subst h3; simp
    · simp only [h3, decide_false, Bool.or_false]
      exact Nat.testBit_lt_two_pow (Nat.one_lt_two_pow (by omega))
/-- the bits are the seats that were given -/
theorem mkT_bits {b : Int32} (hb : b ≠ -8) : ∀ n i c (f : Nat → Int32) t, t < 2 ^ i → ∀ j, (mkT f n i c t).testBit j = true ↔ (t.testBit j = true ∨ (f j = -8 ∧ i ≤ j ∧ mkF b n i c f j = b))
  | 0, i, c, f, t, h, j => by
    unfold mkT mkF
    constructor
    · exact Or.inl
    · rintro (h1 | ⟨h1, _, h3⟩)
      · exact h1
      · exact absurd (h3.symm.trans h1) hb
  | n + 1, i, c, f, t, h, j => by
    have e : 2 ^ (i + 1) = 2 ^ i + 2 ^ i := by rw [Nat.pow_succ]; omega
    unfold mkT mkF
    split
    · constructor
      · exact Or.inl
      · rintro (h1 | ⟨h1, _, h3⟩)
        · exact h1
        · exact absurd (h3.symm.trans h1) hb
    · split
      · rename_i hf
        rw [mkT_congr (f := f) (g := upd f i b) n (i + 1) (c - 1) _ (fun k hk => (upd_after k hk).symm), mkT_bits hb n (i + 1) (c - 1) (upd f i b) (t + 2 ^ i) (by omega) j, tb_add h]
        by_cases hj : j = i
        · subst hj
          have : mkF b n (j + 1) (c - 1) (upd f j b) j = b := by
            rcases mkF_at b n (j + 1) (c - 1) (upd f j b) j with h1 | ⟨_, _, h3, _⟩
            · rw [h1]; simp [upd]
            · omega
          simp [hf, this]
        · have hu : upd f i b j = f j := by simp [upd, hj]
          rw [hu]
          simp only [hj, decide_false, Bool.or_false]
          constructor
          · rintro (h1 | ⟨h1, h2, h3⟩)
            · exact Or.inl h1
            · exact Or.inr ⟨h1, by omega, h3⟩
          · rintro (h1 | ⟨h1, h2, h3⟩)
            · exact Or.inl h1
            · exact Or.inr ⟨h1, by omega, h3⟩
      · rename_i hf
        rw [mkT_bits hb n (i + 1) c f t (by omega) j]
        constructor
        · rintro (h1 | ⟨h1, h2, h3⟩)
          · exact Or.inl h1
          · exact Or.inr ⟨h1, by omega, h3⟩
        · rintro (h1 | ⟨h1, h2, h3⟩)
          · exact Or.inl h1
          · by_cases hj : j = i
            · subst hj
              exact absurd h1 hf
            · exact Or.inr ⟨h1, by omega, h3⟩
/-- how many bits of t are set, of the first n -/
def pcN (t : Nat) : Nat → Nat
  | 0 => 0
  | n + 1 => pcN t n + (if t.testBit n then 1 else 0)
theorem pcN_congr {t u : Nat} : ∀ n, (∀ j, j < n → t.testBit j = u.testBit j) → pcN t n = pcN u n
  | 0, _ => rfl
  | n + 1, h => by
    unfold pcN
    rw [h n (by omega), pcN_congr n (fun j hj => h j (by omega))]
theorem pcN_0 : ∀ n, pcN 0 n = 0
  | 0 => rfl
  | n + 1 => by unfold pcN; rw [pcN_0 n]; simp
theorem pcN_add {t i : Nat} (h : t < 2 ^ i) : ∀ n, pcN (t + 2 ^ i) n = pcN t n + (if i < n then 1 else 0)
  | 0 => by simp [pcN]
  | n + 1 => by
    unfold pcN
    rw [pcN_add h n, tb_add h]
    by_cases h1 : n = i
    · subst h1
      have : t.testBit n = false := Nat.testBit_lt_two_pow h
      simp [this]
    · by_cases h2 : i < n
      · simp [h1, h2, show i < n + 1 by omega]; omega
      · simp [h1, h2, show ¬ i < n + 1 by omega]
theorem mkT_pc (f : Nat → Int32) : ∀ n i c t m, t < 2 ^ i → i + n ≤ m → pcN (mkT f n i c t) m = pcN t m + mkC f n i c
  | 0, i, c, t, m, h, hm => by unfold mkT mkC; omega
  | n + 1, i, c, t, m, h, hm => by
    have e : 2 ^ (i + 1) = 2 ^ i + 2 ^ i := by rw [Nat.pow_succ]; omega
    unfold mkT mkC
    split
    · omega
    · split
      · rw [mkT_pc f n (i + 1) (c - 1) (t + 2 ^ i) m (by omega) (by omega), pcN_add h, if_pos (show i < m by omega)]
        omega
      · rw [mkT_pc f n (i + 1) c t m (by omega) (by omega)]
/-- the best stretch for w: the least seat from which most of w seats can be had side by side -/
def valS (f : Nat → Int32) (z w k : Nat) : Nat := min (runL f (z - k) k) w
def bsL (f : Nat → Int32) (z w : Nat) : Nat → Nat
  | 0 => 0
  | n + 1 => if valS f z w (bsL f z w n) < valS f z w n then n else bsL f z w n
def bsS (f : Nat → Int32) (z w : Nat) : Nat := bsL f z w z
def isBs (f : Nat → Int32) (z w s : Nat) : Prop := s ≤ z ∧ (∀ k, k < z → valS f z w k ≤ valS f z w s) ∧ ∀ k, k < s → valS f z w k < valS f z w s
theorem bsL_is (f : Nat → Int32) (z w : Nat) : ∀ n, bsL f z w n ≤ n ∧ (∀ k, k < n → valS f z w k ≤ valS f z w (bsL f z w n)) ∧ ∀ k, k < bsL f z w n → valS f z w k < valS f z w (bsL f z w n)
  | 0 => ⟨Nat.le_refl 0, fun k h => by omega, fun k h => by unfold bsL at h; omega⟩
  | n + 1 => by
    obtain ⟨h0, h1, h2⟩ := bsL_is f z w n
    unfold bsL
    split
    · rename_i h
      refine ⟨by omega, fun k hk => ?_, fun k hk => ?_⟩
      · by_cases e : k = n
        · rw [e]; exact Nat.le_refl _
        · have := h1 k (by omega); omega
      · have := h1 k hk; omega
    · rename_i h
      refine ⟨by omega, fun k hk => ?_, h2⟩
      by_cases e : k = n
      · rw [e]; omega
      · exact h1 k (by omega)
theorem isBs_unique {f : Nat → Int32} {z w s t : Nat} (hs : isBs f z w s) (ht : isBs f z w t) : s = t := by
  obtain ⟨a0, a1, a2⟩ := hs
  obtain ⟨b0, b1, b2⟩ := ht
  rcases Nat.lt_trichotomy s t with h | h | h
  · have := b2 s h
    rcases Nat.lt_or_ge t z with q | q
    · have := a1 t q; omega
    · have e : valS f z w t = 0 := by unfold valS; rw [show z - t = 0 by omega]; simp [runL]
      omega
  · exact h
  · have := a2 t h
    rcases Nat.lt_or_ge s z with q | q
    · have := b1 s q; omega
    · have e : valS f z w s = 0 := by unfold valS; rw [show z - s = 0 by omega]; simp [runL]
      omega
theorem isBs_eq {f : Nat → Int32} {z w s : Nat} (h : isBs f z w s) : s = bsS f z w := isBs_unique h (bsL_is f z w z)
/-- what a row gives: where it begins to give, how much at most, what it holds then, how much it was -/
def tkS (f : Nat → Int32) (z : Nat) (sd : Int32) (w : Nat) : Nat := if sd = 0 then 0 else bsS f z w
def tkN (f : Nat → Int32) (z : Nat) (sd : Int32) (w : Nat) : Nat := if sd = 0 then w else valS f z w (bsS f z w)
def tkF (b : Int32) (f : Nat → Int32) (z : Nat) (sd : Int32) (w : Nat) : Nat → Int32 := mkF b (z - tkS f z sd w) (tkS f z sd w) (tkN f z sd w) f
def tkC (f : Nat → Int32) (z : Nat) (sd : Int32) (w : Nat) : Nat := mkC f (z - tkS f z sd w) (tkS f z sd w) (tkN f z sd w)
theorem tkS_le (f : Nat → Int32) (z : Nat) (sd : Int32) (w : Nat) : tkS f z sd w ≤ z := by
  unfold tkS
  split
  · omega
  · exact (bsL_is f z w z).1
theorem tkC_le (f : Nat → Int32) (z : Nat) (sd : Int32) (w : Nat) : tkC f z sd w ≤ w := by
  have := mkC_le f (z - tkS f z sd w) (tkS f z sd w) (tkN f z sd w)
  have : tkN f z sd w ≤ w := by
    unfold tkN valS
    split <;> omega
  unfold tkC
  omega
