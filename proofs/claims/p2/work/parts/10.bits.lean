theorem nx_and (a b : Nat) : nI a &&& nI b = nI (a &&& b) := by
  apply Int32.toBitVec_inj.1
  show BitVec.ofNat 32 a &&& BitVec.ofNat 32 b = BitVec.ofNat 32 (a &&& b)
  apply BitVec.eq_of_getLsbD_eq
  intro i hi
  simp [hi]
theorem and_split {a c : Nat} (b e : Nat) (ha : a < 16) (hc : c < 16) : (a + 16 * b) &&& (c + 16 * e) = (a &&& c) + 16 * (b &&& e) := by
  apply Nat.eq_of_testBit_eq
  intro j
  have h1 := Nat.testBit_two_pow_mul_add (a := b) (b := a) (i := 4) ha j
  have h2 := Nat.testBit_two_pow_mul_add (a := e) (b := c) (i := 4) hc j
  have h3 := Nat.testBit_two_pow_mul_add (a := b &&& e) (b := a &&& c) (i := 4) (Nat.and_lt_two_pow a hc) j
  rw [Nat.testBit_and, Nat.add_comm a, Nat.add_comm c, Nat.add_comm (a &&& c)]
  rw [show (2 : Nat) ^ 4 = 16 from rfl] at h1 h2 h3
  rw [h1, h2, h3]
  split <;> simp
theorem bs_1 : ∀ d, d < 16 → ∀ e, e < 2 → (d / 2 + 8 * e) &&& 5 = d / 2 &&& 5 := by decide +kernel
theorem bs_2 : ∀ d, d < 16 → ∀ e, e < 4 → (d / 4 + 4 * e) &&& 3 = d / 4 &&& 3 := by decide +kernel
theorem bs_u : ∀ d, d < 16 → (d / 2 &&& 5) ≤ d := by decide +kernel
def pc4 (d : Nat) : Nat := d % 2 + d / 2 % 2 + d / 4 % 2 + d / 8 % 2
theorem bs_v : ∀ d, d < 16 → ((d - (d / 2 &&& 5)) &&& 3) + ((d - (d / 2 &&& 5)) / 4 &&& 3) = pc4 d := by decide +kernel
theorem bs_w : ∀ d, d < 16 → pc4 d ≤ 4 := by decide +kernel
theorem bs_15 : ∀ d, d < 16 → d &&& 15 = d := by decide +kernel
theorem bs_0 (a : Nat) : a &&& 0 = 0 := by simp
theorem st_1 {d : Nat} (y m : Nat) (hd : d < 16) : (d + 16 * y) / 2 &&& (5 + 16 * m) = (d / 2 &&& 5) + 16 * (y / 2 &&& m) := by
  rw [show (d + 16 * y) / 2 = (d / 2 + 8 * (y % 2)) + 16 * (y / 2) by omega, and_split _ _ (by omega) (by decide), bs_1 d hd _ (by omega)]
theorem st_2 {d : Nat} (y m : Nat) (hd : d < 16) : (d + 16 * y) / 4 &&& (3 + 16 * m) = (d / 4 &&& 3) + 16 * (y / 4 &&& m) := by
  rw [show (d + 16 * y) / 4 = (d / 4 + 4 * (y % 4)) + 16 * (y / 4) by omega, and_split _ _ (by omega) (by decide), bs_2 d hd _ (by omega)]
theorem bc_B1 {a b c d e : Nat} (ha : a < 16) (hb : b < 16) (hc : c < 16) (hd : d < 16) (he : e < 16) : (a + 16 * (b + 16 * (c + 16 * (d + 16 * e)))) / 2 &&& 1431655765 = (a / 2 &&& 5) + 16 * ((b / 2 &&& 5) + 16 * ((c / 2 &&& 5) + 16 * ((d / 2 &&& 5) + 16 * (e / 2 &&& 5)))) := by
  rw [show (1431655765 : Nat) = 5 + 16 * (5 + 16 * (5 + 16 * (5 + 16 * (5 + 16 * 1365)))) from rfl, st_1 _ _ ha, st_1 _ _ hb, st_1 _ _ hc, st_1 _ _ hd]
  have := st_1 0 1365 he
  rw [Nat.mul_zero, Nat.add_zero] at this
  rw [this]
  simp
theorem bc_B2a {a b c d e : Nat} (ha : a < 16) (hb : b < 16) (hc : c < 16) (hd : d < 16) (he : e < 16) : (a + 16 * (b + 16 * (c + 16 * (d + 16 * e)))) &&& 858993459 = (a &&& 3) + 16 * ((b &&& 3) + 16 * ((c &&& 3) + 16 * ((d &&& 3) + 16 * (e &&& 3)))) := by
  rw [show (858993459 : Nat) = 3 + 16 * (3 + 16 * (3 + 16 * (3 + 16 * (3 + 16 * 819)))) from rfl, and_split _ _ ha (by decide), and_split _ _ hb (by decide), and_split _ _ hc (by decide), and_split _ _ hd (by decide)]
  have := and_split 0 819 he (show 3 < 16 by decide)
  rw [Nat.mul_zero, Nat.add_zero] at this
  rw [this]
  simp
theorem bc_B2b {a b c d e : Nat} (ha : a < 16) (hb : b < 16) (hc : c < 16) (hd : d < 16) (he : e < 16) : (a + 16 * (b + 16 * (c + 16 * (d + 16 * e)))) / 4 &&& 858993459 = (a / 4 &&& 3) + 16 * ((b / 4 &&& 3) + 16 * ((c / 4 &&& 3) + 16 * ((d / 4 &&& 3) + 16 * (e / 4 &&& 3)))) := by
  rw [show (858993459 : Nat) = 3 + 16 * (3 + 16 * (3 + 16 * (3 + 16 * (3 + 16 * 819)))) from rfl, st_2 _ _ ha, st_2 _ _ hb, st_2 _ _ hc, st_2 _ _ hd]
  have := st_2 0 819 he
  rw [Nat.mul_zero, Nat.add_zero] at this
  rw [this]
  simp
theorem bc_B3 {a b c d e : Nat} (ha : a < 16) (hc : c < 16) (he : e < 16) (hb : b < 16) (hd : d < 16) : (a + 16 * (b + 16 * (c + 16 * (d + 16 * e)))) &&& 252645135 = a + 256 * c + 65536 * e := by
  rw [show (252645135 : Nat) = 15 + 16 * (0 + 16 * (15 + 16 * (0 + 16 * (15 + 16 * 240)))) from rfl, and_split _ _ ha (by decide), and_split _ _ hb (by decide), and_split _ _ hc (by decide), and_split _ _ hd (by decide)]
  have := and_split 0 240 he (show 15 < 16 by decide)
  rw [Nat.mul_zero, Nat.add_zero] at this
  rw [this, bs_15 a ha, bs_15 c hc, bs_15 e he, bs_0, bs_0]
  simp
  omega
theorem pcN_sh (t : Nat) : ∀ n, pcN t (n + 1) = t % 2 + pcN (t / 2) n
  | 0 => by
    simp only [pcN, Nat.zero_add, Nat.testBit_zero]
    rcases Nat.mod_two_eq_zero_or_one t with h | h <;> simp [h]
  | n + 1 => by
    have h := pcN_sh t n
    rw [show pcN t (n + 1 + 1) = pcN t (n + 1) + (if t.testBit (n + 1) then 1 else 0) from rfl, h, Nat.testBit_succ]
    rw [show pcN (t / 2) (n + 1) = pcN (t / 2) n + (if (t / 2).testBit n then 1 else 0) from rfl]
    omega
theorem pcN_4 (t n : Nat) : pcN t (n + 4) = pc4 (t % 16) + pcN (t / 16) n := by
  rw [show n + 4 = n + 3 + 1 from rfl, pcN_sh, show n + 3 = n + 2 + 1 from rfl, pcN_sh, show n + 2 = n + 1 + 1 from rfl, pcN_sh, pcN_sh]
  rw [show t / 2 / 2 / 2 / 2 = t / 16 by omega]
  unfold pc4
  omega
theorem bc_tail {s0 s1 s2 : Nat} (h0 : s0 ≤ 8) (h1 : s1 ≤ 8) (h2 : s2 ≤ 4) : ((s0 + 256 * s1 + 65536 * s2) + (s0 + 256 * s1 + 65536 * s2) / 256 + ((s0 + 256 * s1 + 65536 * s2) + (s0 + 256 * s1 + 65536 * s2) / 256) / 65536) % 64 = s0 + s1 + s2 := by
  have e1 : (s0 + 256 * s1 + 65536 * s2) / 256 = s1 + 256 * s2 := by omega
  rw [e1]
  have e2 : (s0 + 256 * s1 + 65536 * s2 + (s1 + 256 * s2)) / 65536 = s2 := by omega
  rw [e2]
  omega
/-- the JDK's way of counting, on numbers of 20 bits -/
theorem bc_all {t : Nat} (ht : t < 2 ^ 20) : ∃ x1 x2 x3 x4 x5 : Nat, x1 + (t / 2 &&& 1431655765) = t ∧ x2 = (x1 &&& 858993459) + (x1 / 4 &&& 858993459) ∧ x3 = (x2 + x2 / 16) &&& 252645135 ∧ x4 = x3 + x3 / 256 ∧ x5 = x4 + x4 / 65536 ∧ x5 % 64 = pcN t 20 ∧ x1 < 2 ^ 24 ∧ x2 < 2 ^ 24 ∧ x3 < 2 ^ 24 ∧ x4 < 2 ^ 24 ∧ x5 < 2 ^ 24 ∧ x2 + x2 / 16 < 2 ^ 24 := by
  obtain ⟨a, b, c, d, e, ha, hb, hc, hd, he, rfl⟩ : ∃ a b c d e : Nat, a < 16 ∧ b < 16 ∧ c < 16 ∧ d < 16 ∧ e < 16 ∧ t = a + 16 * (b + 16 * (c + 16 * (d + 16 * e))) :=
    ⟨t % 16, t / 16 % 16, t / 256 % 16, t / 4096 % 16, t / 65536 % 16, by omega, by omega, by omega, by omega, by omega, by omega⟩
  have ua := bs_u a ha; have ub := bs_u b hb; have uc := bs_u c hc; have ud := bs_u d hd; have ue := bs_u e he
  have va := bs_v a ha; have vb := bs_v b hb; have vc := bs_v c hc; have vd := bs_v d hd; have ve := bs_v e he
  have wa := bs_w a ha; have wb := bs_w b hb; have wc := bs_w c hc; have wd := bs_w d hd; have we := bs_w e he
  have e2 : ((((a - (a / 2 &&& 5)) + 16 * ((b - (b / 2 &&& 5)) + 16 * ((c - (c / 2 &&& 5)) + 16 * ((d - (d / 2 &&& 5)) + 16 * (e - (e / 2 &&& 5)))))) &&& 858993459) + (((a - (a / 2 &&& 5)) + 16 * ((b - (b / 2 &&& 5)) + 16 * ((c - (c / 2 &&& 5)) + 16 * ((d - (d / 2 &&& 5)) + 16 * (e - (e / 2 &&& 5)))))) / 4 &&& 858993459)) = pc4 a + 16 * (pc4 b + 16 * (pc4 c + 16 * (pc4 d + 16 * pc4 e))) := by
    rw [bc_B2a (by omega) (by omega) (by omega) (by omega) (by omega), bc_B2b (by omega) (by omega) (by omega) (by omega) (by omega)]
    omega
  have e3 : ((pc4 a + 16 * (pc4 b + 16 * (pc4 c + 16 * (pc4 d + 16 * pc4 e)))) + (pc4 a + 16 * (pc4 b + 16 * (pc4 c + 16 * (pc4 d + 16 * pc4 e)))) / 16) &&& 252645135 = (pc4 a + pc4 b) + 256 * (pc4 c + pc4 d) + 65536 * pc4 e := by
    rw [show (pc4 a + 16 * (pc4 b + 16 * (pc4 c + 16 * (pc4 d + 16 * pc4 e)))) + (pc4 a + 16 * (pc4 b + 16 * (pc4 c + 16 * (pc4 d + 16 * pc4 e)))) / 16 = (pc4 a + pc4 b) + 16 * ((pc4 b + pc4 c) + 16 * ((pc4 c + pc4 d) + 16 * ((pc4 d + pc4 e) + 16 * pc4 e))) by omega]
    rw [bc_B3 (by omega) (by omega) (by omega) (by omega) (by omega)]
  have e6 : pcN (a + 16 * (b + 16 * (c + 16 * (d + 16 * e)))) 20 = pc4 a + pc4 b + pc4 c + pc4 d + pc4 e := by
    rw [show (20 : Nat) = 16 + 4 from rfl, pcN_4, show (16 : Nat) = 12 + 4 from rfl, pcN_4, show (12 : Nat) = 8 + 4 from rfl, pcN_4, show (8 : Nat) = 4 + 4 from rfl, pcN_4, show (4 : Nat) = 0 + 4 from rfl, pcN_4]
    have h1 : (a + 16 * (b + 16 * (c + 16 * (d + 16 * e)))) % 16 = a := by omega
    have h2 : (a + 16 * (b + 16 * (c + 16 * (d + 16 * e)))) / 16 % 16 = b := by omega
    have h3 : (a + 16 * (b + 16 * (c + 16 * (d + 16 * e)))) / 16 / 16 % 16 = c := by omega
    have h4 : (a + 16 * (b + 16 * (c + 16 * (d + 16 * e)))) / 16 / 16 / 16 % 16 = d := by omega
    have h5 : (a + 16 * (b + 16 * (c + 16 * (d + 16 * e)))) / 16 / 16 / 16 / 16 % 16 = e := by omega
    simp only [Nat.zero_add, show (0 + 4 + 4 + 4 + 4 : Nat) = 16 from rfl, show (12 + 4 : Nat) = 16 from rfl, show (8 + 4 : Nat) = 12 from rfl, show (4 + 4 : Nat) = 8 from rfl] at h1 h2 h3 h4 h5 ⊢
    rw [h1, h2, h3, h4, h5]
    simp only [pcN]
    omega
  refine ⟨(a - (a / 2 &&& 5)) + 16 * ((b - (b / 2 &&& 5)) + 16 * ((c - (c / 2 &&& 5)) + 16 * ((d - (d / 2 &&& 5)) + 16 * (e - (e / 2 &&& 5))))), _, _, _, _, ?_, rfl, rfl, rfl, rfl, ?_⟩
  · rw [bc_B1 ha hb hc hd he]
    omega
  · rw [e2, e3, e6]
    refine ⟨?_, by omega, by omega, by omega, by omega, by omega, by omega⟩
    rw [bc_tail (by omega) (by omega) (by omega)]
    omega
