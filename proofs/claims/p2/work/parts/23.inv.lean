/-! WHAT STAYS TRUE OF A HALL -/
def IV (z : Nat → Nat) (ow : Nat → Nat → Int32) (B : Nat) (q : List Pty) (li : List Nat) (mh : Nat) : Prop := (∀ i, i < 10 → z i ≤ 20) ∧ (∀ r, r < 10 → ∀ j, 20 ≤ j → ow r j = 0) ∧ OR z ow B ∧ TL z ow ∧ B ≤ 40 ∧ q.length ≤ 8 ∧ mh ≤ 6 ∧ (∀ P ∈ q, PI P) ∧ li.length ≤ 6 ∧ ∀ r ∈ li, r ≤ 11
def IVS (S : HS) : Prop := IV S.1 S.2.2.1 S.2.2.2.2.1 S.2.2.2.2.2.1 S.2.2.2.2.2.2.1 S.2.2.2.2.2.2.2.1
def GZ (z : Nat → Nat) (ow oc : Nat → Nat → Int32) : Prop := ∀ r j, oc r j = ow r j ∨ j < z r
theorem GZ_tk {z : Nat → Nat} {ow oc : Nat → Nat → Int32} {r : Nat} {b sd : Int32} {w : Nat} (h : GZ z ow oc) : GZ z ow (va_up oc r (tkF b (oc r) (z r) sd w)) := by
  intro r2 j
  by_cases e : r2 = r
  · subst e
    rw [va_up_self]
    have hs := tkS_le (oc r2) (z r2) sd w
    rcases mkF_at b (z r2 - tkS (oc r2) (z r2) sd w) (tkS (oc r2) (z r2) sd w) (tkN (oc r2) (z r2) sd w) (oc r2) j with q | ⟨q1, q2, q3, q4⟩
    · rw [show tkF b (oc r2) (z r2) sd w j = oc r2 j from q]
      exact h r2 j
    · exact Or.inr (by omega)
  · rw [va_up_ne _ _ e]
    exact h r2 j
theorem goA_GZ {z : Nat → Nat} {sd : Nat → Int32} {b : Int32} {n : Nat} {mo : Int32} {ow : Nat → Nat → Int32} : ∀ (rs : List Nat) (w p : Nat) (oc : Nat → Nat → Int32) (mh : Nat), GZ z ow oc → GZ z ow (goA z sd b n mo rs w p oc mh).2.1
  | [], w, p, oc, mh, h => h
  | r :: rs, w, p, oc, mh, h => by
    simp only [goA]
    split
    · exact h
    · split
      · exact goA_GZ rs _ _ _ _ (GZ_tk h)
      · exact h
theorem GZ_0 {z : Nat → Nat} {ow : Nat → Nat → Int32} : GZ z ow ow := fun _ _ => Or.inl rfl
theorem GZ_Z20 {z : Nat → Nat} {ow oc : Nat → Nat → Int32} (hz : ∀ i, i < 10 → z i ≤ 20) (h0 : ∀ r, r < 10 → ∀ j, 20 ≤ j → ow r j = 0) (h : GZ z ow oc) : ∀ r, r < 10 → ∀ j, 20 ≤ j → oc r j = 0 := fun r hr j hj => by
  rcases h r j with q | q
  · rw [q]; exact h0 r hr j hj
  · have := hz r hr; omega
theorem GZ_TL {z : Nat → Nat} {ow oc : Nat → Nat → Int32} (h0 : TL z ow) (h : GZ z ow oc) : TL z oc := fun r hr hz j h1 h2 => by
  rcases h r j with q | q
  · rw [q]; exact h0 r hr hz j h1 h2
  · omega
/-- the part of IV that the tries touch -/
def IVt (z : Nat → Nat) (ow : Nat → Nat → Int32) (B mh : Nat) : Prop := (∀ i, i < 10 → z i ≤ 20) ∧ (∀ r, r < 10 → ∀ j, 20 ≤ j → ow r j = 0) ∧ OR z ow B ∧ TL z ow ∧ B ≤ 40 ∧ mh ≤ 6
theorem goA_IVt {z : Nat → Nat} {sd : Nat → Int32} {n : Nat} {mo : Int32} {ow : Nat → Nat → Int32} {B mh : Nat} {L : List Nat} {w : Nat} (h : IVt z ow B mh) (hB : B < 40) (hL : L.length ≤ 6) : IVt z (goA z sd (nI B) n mo L w 0 ow mh).2.1 (B + 1) (goA z sd (nI B) n mo L w 0 ow mh).2.2 ∧ IVt z ow B (goA z sd (nI B) n mo L w 0 ow mh).2.2 := by
  obtain ⟨h1, h2, h3, h4, h5, h6⟩ := h
  have hg := goA_GZ (sd := sd) (b := nI B) (n := n) (mo := mo) L w 0 ow mh (GZ_0 (z := z))
  have hv := goA_GV (sd := sd) (n := n) (mo := mo) (nI_ne8 (B := B) (by omega)) h1 L w 0 ow mh GV_0
  have hm := goA_mh (z := z) (sd := sd) (b := nI B) (n := n) (mo := mo) L w 0 ow mh h6 (by omega)
  exact ⟨⟨h1, GZ_Z20 h1 h2 hg, OR_GV h3 hv, GZ_TL h4 hg, by omega, hm⟩, h1, h2, h3, h4, h5, hm⟩
theorem tryA_IVt {z : Nat → Nat} {sd : Nat → Int32} : ∀ (ps : List Pty) (B : Nat) (ow : Nat → Nat → Int32) (mh : Nat) (fl : Int32), IVt z ow B mh → (∀ P ∈ ps, PI P) → IVt z (tryA z sd ps B ow mh fl).2.2.1 (tryA z sd ps B ow mh fl).2.1 (tryA z sd ps B ow mh fl).2.2.2.1 ∧ (∀ P ∈ (tryA z sd ps B ow mh fl).1, P ∈ ps) ∧ (tryA z sd ps B ow mh fl).1.length ≤ ps.length
  | [], B, ow, mh, fl, h, _ => ⟨h, fun P hP => hP, Nat.le_refl _⟩
  | P :: ps, B, ow, mh, fl, h, hp => by
    have hps : ∀ P ∈ ps, PI P := fun Q hQ => hp Q (List.mem_cons_of_mem _ hQ)
    have hP := hp P List.mem_cons_self
    by_cases hB : B < 40
    · obtain ⟨g1, g2⟩ := goA_IVt (sd := sd) (n := P.1) (mo := 2) (L := P.2) (w := P.1) h hB hP.1
      by_cases hG : (goA z sd (nI B) P.1 2 P.2 P.1 0 ow mh).1 = 0
      · rw [tryA_got hB hG]
        obtain ⟨a, b, c⟩ := tryA_IVt ps _ _ _ fl g1 hps
        exact ⟨a, fun Q hQ => List.mem_cons_of_mem _ (b Q hQ), by rw [List.length_cons]; omega⟩
      · rw [tryA_not hB hG]
        obtain ⟨a, b, c⟩ := tryA_IVt ps B ow _ (fl + 1) g2 hps
        refine ⟨a, fun Q hQ => ?_, ?_⟩
        · rcases List.mem_cons.mp hQ with e | e
          · rw [e]; exact List.mem_cons_self
          · exact List.mem_cons_of_mem _ (b Q e)
        · simp only [List.length_cons]; omega
    · rw [tryA_full hB]
      obtain ⟨a, b, c⟩ := tryA_IVt ps B ow mh fl h hps
      refine ⟨a, fun Q hQ => ?_, ?_⟩
      · rcases List.mem_cons.mp hQ with e | e
        · rw [e]; exact List.mem_cons_self
        · exact List.mem_cons_of_mem _ (b Q e)
      · simp only [List.length_cons]; omega
theorem opTry_IV {z : Nat → Nat} {sd : Nat → Int32} {ow : Nat → Nat → Int32} {cn : Nat → Int32} {B : Nat} {q : List Pty} {li : List Nat} {mh : Nat} {fl : Int32} (h : IV z ow B q li mh) : IVS (opTry z sd ow cn B q li mh fl).2 := by
  obtain ⟨h1, h2, h3, h4, h5, h6, h7, h8, h9⟩ := h
  obtain ⟨⟨a1, a2, a3, a4, a5, a6⟩, b, c⟩ := tryA_IVt (sd := sd) q B ow mh fl ⟨h1, h2, h3, h4, h5, h7⟩ h8
  exact ⟨a1, a2, a3, a4, a5, Nat.le_trans c h6, a6, fun P hP => h8 P (b P hP), h9⟩
section IVO
variable {z : Nat → Nat} {sd : Nat → Int32} {ow : Nat → Nat → Int32} {cn : Nat → Int32} {B : Nat} {q : List Pty} {li : List Nat} {mh : Nat} {fl : Int32}
theorem opOpen_IV (h : IV z ow B q li mh) (x n : Int32) : IVS (opOpen z sd ow cn B q li mh fl x n).2 := by
  unfold opOpen
  split
  · rename_i hc
    split
    · obtain ⟨r, hr, rfl⟩ := g_ix (n := 10) (M := 10) rfl hc.1
      obtain ⟨n1, hn1, hn2, rfl⟩ := g_ix1 (n := 20) (M := 20) rfl (by have := hc.2.1; simp only [Int32.le_iff_toInt_le, Int32.lt_iff_toInt_lt, gl_1] at this ⊢; omega) hc.2.2
      rw [ixN_nI (n := r) (by omega), ixN_nI (n := n1) (by omega)]
      obtain ⟨h1, h2, h3, h4, h5, h6⟩ := h
      refine opTry_IV ⟨fun i hi => ?_, fun i hi j hj => ?_, OR_open h3, fun i hi hz j a b => ?_, h5, h6⟩
      · by_cases e : i = r
        · subst e; rw [va_up_self]; omega
        · rw [va_up_ne _ _ e]; exact h1 i hi
      · by_cases e : i = r
        · subst e; rw [va_up_self]; simp only [gFill]; rw [if_neg (by omega)]; exact h2 i hi j hj
        · rw [va_up_ne _ _ e]; exact h2 i hi j hj
      · by_cases e : i = r
        · subst e; rw [va_up_self]; simp only [gFill]; rw [if_pos b]
        · rw [va_up_ne _ _ e] at hz a ⊢; exact h4 i hi hz j a b
    · exact h
  · exact h
theorem opShut_IV (h : IV z ow B q li mh) (x : Int32) : IVS (opShut z sd ow cn B q li mh fl x).2 := by
  unfold opShut
  split
  · split
    · obtain ⟨h1, h2, h3, h4, h5⟩ := h
      have hz : ∀ i, va_up z (ixN x) 0 i ≠ 0 → va_up z (ixN x) 0 i = z i := fun i hi => by
        by_cases e : i = ixN x
        · rw [e, va_up_self] at hi; exact absurd rfl hi
        · rw [va_up_ne _ _ e]
      refine ⟨fun i hi => ?_, h2, fun i hi hne j hj => h3 i hi (by rw [← hz i hne]; exact hne) j hj, fun i hi hne j a b => h4 i hi (by rw [← hz i hne]; exact hne) j (by rw [← hz i hne]; exact a) b, h5⟩
      show va_up z (ixN x) 0 i ≤ 20
      by_cases e : i = ixN x
      · rw [e, va_up_self]; omega
      · rw [va_up_ne _ _ e]; exact h1 i hi
    · exact h
  · exact h
theorem opStrict_IV (h : IV z ow B q li mh) (x on : Int32) : IVS (opStrict z sd ow cn B q li mh fl x on).2 := by
  unfold opStrict
  split
  · split
    · exact h
    · exact h
  · exact h
theorem opList_IV (h : IV z ow B q li mh) (x : Int32) : IVS (opList z sd ow cn B q li mh fl x).2 := by
  unfold opList
  split
  · rename_i hc
    split
    · rename_i hl
      obtain ⟨h1, h2, h3, h4, h5, h6, h7, h8, h9, h10⟩ := h
      obtain ⟨i1, hi1, rfl⟩ := nI_of2 (n := 11) (M := 11) rfl (by have := hc.1; simp only [Int32.le_iff_toInt_le, Int32.lt_iff_toInt_lt, gl_0] at this ⊢; omega) hc.2
      refine ⟨h1, h2, h3, h4, h5, h6, h7, h8, ?_, fun r hr => ?_⟩
      · show (li ++ [ixN (nI i1)]).length ≤ 6
        rw [List.length_append, List.length_singleton]; omega
      · rcases List.mem_append.mp hr with c | c
        · exact h10 r c
        · rw [List.mem_singleton.mp c, ixN_nI (by omega)]; exact hi1
    · exact h
  · exact h
theorem opBook_IV (h : IV z ow B q li mh) (n mo : Int32) : IVS (opBook z sd ow cn B q li mh fl n mo).2 := by
  unfold opBook
  split
  · rename_i hc
    split
    · exact h
    · split
      · rename_i hB
        obtain ⟨n1, hn1, hn2, rfl⟩ := g_ix1 (n := 60) (M := 60) rfl (by have := hc.1.1; simp only [Int32.le_iff_toInt_le, Int32.lt_iff_toInt_lt, gl_1] at this ⊢; omega) hc.1.2
        rw [ixN_nI (n := n1) (by omega)]
        obtain ⟨h1, h2, h3, h4, h5, h6, h7, h8, h9, h10⟩ := h
        obtain ⟨⟨a1, a2, a3, a4, a5, a6⟩, b1, b2, b3, b4, b5, b6⟩ := goA_IVt (sd := sd) (n := n1) (mo := mo) (L := li) (w := n1) ⟨h1, h2, h3, h4, h5, h7⟩ hB h9
        unfold opGo
        split
        · exact ⟨a1, a2, a3, a4, a5, h6, a6, h8, by simp, fun r hr => by simp at hr⟩
        · split
          · rename_i hq
            refine ⟨b1, b2, b3, b4, b5, ?_, b6, fun P hP => ?_, by simp, fun r hr => by simp at hr⟩
            · show (q ++ [(n1, li)]).length ≤ 8
              rw [List.length_append, List.length_singleton]; omega
            · rcases List.mem_append.mp hP with c | c
              · exact h8 P c
              · rw [List.mem_singleton.mp c]; exact ⟨h9, h10, hn1, hn2⟩
          · exact ⟨b1, b2, b3, b4, b5, h6, b6, h8, by simp, fun r hr => by simp at hr⟩
      · exact h
  · exact h
theorem opCancel_IV (h : IV z ow B q li mh) (x : Int32) : IVS (opCancel z sd ow cn B q li mh fl x).2 := by
  unfold opCancel
  split
  · split
    · obtain ⟨h1, h2, h3, h4, h5⟩ := h
      refine opTry_IV ⟨h1, fun r hr j hj => ?_, OR_cancel h3, fun r hr hz j a b => ?_, h5⟩
      · simp only [if_pos hr, freeV]
        rw [if_neg (fun c => by have := h1 r hr; omega)]
        exact h2 r hr j hj
      · simp only [if_pos hr, freeV]
        rw [if_neg (fun c => by omega)]
        exact h4 r hr hz j a b
    · exact h
  · exact h
theorem opLeave_IV (h : IV z ow B q li mh) (x : Int32) : IVS (opLeave z sd ow cn B q li mh fl x).2 := by
  unfold opLeave
  split
  · obtain ⟨h1, h2, h3, h4, h5, h6, h7, h8, h9⟩ := h
    exact ⟨h1, h2, h3, h4, h5, Nat.le_trans (List.length_eraseIdx_le q _) h6, h7, fun P hP => h8 P (List.mem_of_mem_eraseIdx hP), h9⟩
  · exact h
end IVO
theorem H_open (l : Launch) (D : va_G) (K : gCl) {h0 : Nat} {z : Nat → Nat} {sd : Nat → Int32} {ow : Nat → Nat → Int32} {cn : Nat → Int32} {B : Nat} {q : List Pty} {li : List Nat} {mh : Nat} {fl : Int32} {w : va_W} (x : Int32) (y : Int32) (sz : Nat) (hI : IV z ow B q li mh) (hC : CW K h0 (z, sd, ow, cn, B, q, li, mh, fl) w) : gMi l yX2_open wsX2_open ({ frames := 14, cells := 0, slots := 0, locals := 420 } : Room) D vwCl (gT K) [.ref h0, .int x, .int y] w sz (RP K h0 (opOpen z sd ow cn B q li mh fl x y)) 0 0 := by
  obtain ⟨a, ho, bk, pl, pn, pm, nm, co, qu, rfl, rfl, hM, hPs, hlc, hLc⟩ := hC
  exact h_open l D K a z sd ho bk ow pl pn pm nm cn co qu B mh fl q li x y sz hI.1 hI.2.2.2.2.1 hI.2.2.2.2.2.1 hI.2.2.2.2.2.2.1 hM hPs hlc hLc
theorem M_open (l : Launch) (D : va_G) (K : gCl) {m0 : Nat} {z : Nat → Nat} {sd : Nat → Int32} {ow : Nat → Nat → Int32} {cn : Nat → Int32} {B : Nat} {q : List Pty} {li : List Nat} {mh : Nat} {fl : Int32} {w : va_W} (x : Int32) (y : Int32) (sz : Nat) (hI : IV z ow B q li mh) (hC : MW K m0 (z, sd, ow, cn, B, q, li, mh, fl) w) : gMi l yX3_open wsX3_open ({ frames := 7, cells := 0, slots := 0, locals := 260 } : Room) D vwCl (gT K) [.ref m0, .int x, .int y] w sz (RM K m0 (opOpen z sd ow cn B q li mh fl x y)) 0 0 := by
  obtain ⟨ma, th, wl, fd, op, st, zs, ho, ba, se, lx, pe, lt, le, wa, ta, rfl, rfl, hMS, hLc, hQ⟩ := hC
  exact m_open l D K ma op st zs ho ba se lx cn pe lt le wa ta th wl fd z sd ow B mh fl q li x y sz hI.1 hI.2.2.2.2.1 hI.2.2.2.2.2.1 hI.2.2.2.2.2.2.1 hI.2.2.1 hMS hLc hQ hI.2.1
theorem H_shut (l : Launch) (D : va_G) (K : gCl) {h0 : Nat} {z : Nat → Nat} {sd : Nat → Int32} {ow : Nat → Nat → Int32} {cn : Nat → Int32} {B : Nat} {q : List Pty} {li : List Nat} {mh : Nat} {fl : Int32} {w : va_W} (x : Int32) (sz : Nat) (hI : IV z ow B q li mh) (hC : CW K h0 (z, sd, ow, cn, B, q, li, mh, fl) w) : gMi l yX2_shut wsX2_shut ({ frames := 14, cells := 0, slots := 0, locals := 420 } : Room) D vwCl (gT K) [.ref h0, .int x] w sz (RP K h0 (opShut z sd ow cn B q li mh fl x)) 0 0 := by
  obtain ⟨a, ho, bk, pl, pn, pm, nm, co, qu, rfl, rfl, hM, hPs, hlc, hLc⟩ := hC
  exact h_shut l D K a z sd ho bk ow pl pn pm nm cn co qu B mh fl q li x sz hI.1 hI.2.2.2.2.1 hI.2.2.2.2.2.1 hI.2.2.2.2.2.2.1 hM hPs hlc hLc
theorem M_shut (l : Launch) (D : va_G) (K : gCl) {m0 : Nat} {z : Nat → Nat} {sd : Nat → Int32} {ow : Nat → Nat → Int32} {cn : Nat → Int32} {B : Nat} {q : List Pty} {li : List Nat} {mh : Nat} {fl : Int32} {w : va_W} (x : Int32) (sz : Nat) (hI : IV z ow B q li mh) (hC : MW K m0 (z, sd, ow, cn, B, q, li, mh, fl) w) : gMi l yX3_shut wsX3_shut ({ frames := 7, cells := 0, slots := 0, locals := 260 } : Room) D vwCl (gT K) [.ref m0, .int x] w sz (RM K m0 (opShut z sd ow cn B q li mh fl x)) 0 0 := by
  obtain ⟨ma, th, wl, fd, op, st, zs, ho, ba, se, lx, pe, lt, le, wa, ta, rfl, rfl, hMS, hLc, hQ⟩ := hC
  exact m_shut l D K ma op st zs ho ba se lx cn pe lt le wa ta th wl fd z sd ow B mh fl q li x sz hI.1 hI.2.2.2.2.1 hI.2.2.2.2.2.1 hI.2.2.2.2.2.2.1 hI.2.2.1 hMS hLc hQ
theorem H_strict (l : Launch) (D : va_G) (K : gCl) {h0 : Nat} {z : Nat → Nat} {sd : Nat → Int32} {ow : Nat → Nat → Int32} {cn : Nat → Int32} {B : Nat} {q : List Pty} {li : List Nat} {mh : Nat} {fl : Int32} {w : va_W} (x : Int32) (y : Int32) (sz : Nat) (hI : IV z ow B q li mh) (hC : CW K h0 (z, sd, ow, cn, B, q, li, mh, fl) w) (hon : y = 0 ∨ y = 1) : gMi l yX2_strict wsX2_strict ({ frames := 14, cells := 0, slots := 0, locals := 420 } : Room) D vwCl (gT K) [.ref h0, .int x, .int y] w sz (RP K h0 (opStrict z sd ow cn B q li mh fl x y)) 0 0 := by
  obtain ⟨a, ho, bk, pl, pn, pm, nm, co, qu, rfl, rfl, hM, hPs, hlc, hLc⟩ := hC
  exact h_strict l D K a z sd ho bk ow pl pn pm nm cn co qu B mh fl q li x y sz hI.1 hI.2.2.2.2.1 hI.2.2.2.2.2.1 hI.2.2.2.2.2.2.1 hM hPs hlc hLc hon
theorem M_strict (l : Launch) (D : va_G) (K : gCl) {m0 : Nat} {z : Nat → Nat} {sd : Nat → Int32} {ow : Nat → Nat → Int32} {cn : Nat → Int32} {B : Nat} {q : List Pty} {li : List Nat} {mh : Nat} {fl : Int32} {w : va_W} (x : Int32) (y : Int32) (sz : Nat) (hI : IV z ow B q li mh) (hC : MW K m0 (z, sd, ow, cn, B, q, li, mh, fl) w) (hon : y = 0 ∨ y = 1) : gMi l yX3_strict wsX3_strict ({ frames := 7, cells := 0, slots := 0, locals := 260 } : Room) D vwCl (gT K) [.ref m0, .int x, .int y] w sz (RM K m0 (opStrict z sd ow cn B q li mh fl x y)) 0 0 := by
  obtain ⟨ma, th, wl, fd, op, st, zs, ho, ba, se, lx, pe, lt, le, wa, ta, rfl, rfl, hMS, hLc, hQ⟩ := hC
  exact m_strict l D K ma op st zs ho ba se lx cn pe lt le wa ta th wl fd z sd ow B mh fl q li x y sz hI.1 hI.2.2.2.2.1 hI.2.2.2.2.2.1 hI.2.2.2.2.2.2.1 hI.2.2.1 hMS hLc hQ hon
theorem H_list (l : Launch) (D : va_G) (K : gCl) {h0 : Nat} {z : Nat → Nat} {sd : Nat → Int32} {ow : Nat → Nat → Int32} {cn : Nat → Int32} {B : Nat} {q : List Pty} {li : List Nat} {mh : Nat} {fl : Int32} {w : va_W} (x : Int32) (sz : Nat) (hI : IV z ow B q li mh) (hC : CW K h0 (z, sd, ow, cn, B, q, li, mh, fl) w) : gMi l yX2_list wsX2_list ({ frames := 14, cells := 0, slots := 0, locals := 420 } : Room) D vwCl (gT K) [.ref h0, .int x] w sz (RP K h0 (opList z sd ow cn B q li mh fl x)) 0 0 := by
  obtain ⟨a, ho, bk, pl, pn, pm, nm, co, qu, rfl, rfl, hM, hPs, hlc, hLc⟩ := hC
  exact h_list l D K a z sd ho bk ow pl pn pm nm cn co qu B mh fl q li x sz hI.1 hI.2.2.2.2.1 hI.2.2.2.2.2.1 hI.2.2.2.2.2.2.1 hM hPs hlc hLc
theorem M_list (l : Launch) (D : va_G) (K : gCl) {m0 : Nat} {z : Nat → Nat} {sd : Nat → Int32} {ow : Nat → Nat → Int32} {cn : Nat → Int32} {B : Nat} {q : List Pty} {li : List Nat} {mh : Nat} {fl : Int32} {w : va_W} (x : Int32) (sz : Nat) (hI : IV z ow B q li mh) (hC : MW K m0 (z, sd, ow, cn, B, q, li, mh, fl) w) : gMi l yX3_list wsX3_list ({ frames := 7, cells := 0, slots := 0, locals := 260 } : Room) D vwCl (gT K) [.ref m0, .int x] w sz (RM K m0 (opList z sd ow cn B q li mh fl x)) 0 0 := by
  obtain ⟨ma, th, wl, fd, op, st, zs, ho, ba, se, lx, pe, lt, le, wa, ta, rfl, rfl, hMS, hLc, hQ⟩ := hC
  exact m_list l D K ma op st zs ho ba se lx cn pe lt le wa ta th wl fd z sd ow B mh fl q li x sz hI.1 hI.2.2.2.2.1 hI.2.2.2.2.2.1 hI.2.2.2.2.2.2.1 hI.2.2.1 hMS hLc hQ
theorem H_book (l : Launch) (D : va_G) (K : gCl) {h0 : Nat} {z : Nat → Nat} {sd : Nat → Int32} {ow : Nat → Nat → Int32} {cn : Nat → Int32} {B : Nat} {q : List Pty} {li : List Nat} {mh : Nat} {fl : Int32} {w : va_W} (x : Int32) (y : Int32) (sz : Nat) (hI : IV z ow B q li mh) (hC : CW K h0 (z, sd, ow, cn, B, q, li, mh, fl) w) : gMi l yX2_book wsX2_book ({ frames := 14, cells := 0, slots := 0, locals := 420 } : Room) D vwCl (gT K) [.ref h0, .int x, .int y] w sz (RP K h0 (opBook z sd ow cn B q li mh fl x y)) 0 0 := by
  obtain ⟨a, ho, bk, pl, pn, pm, nm, co, qu, rfl, rfl, hM, hPs, hlc, hLc⟩ := hC
  exact h_book l D K a z sd ho bk ow pl pn pm nm cn co qu B mh fl q li x y sz hI.1 hI.2.2.2.2.1 hI.2.2.2.2.2.1 hI.2.2.2.2.2.2.1 hM hPs hlc hLc
theorem M_book (l : Launch) (D : va_G) (K : gCl) {m0 : Nat} {z : Nat → Nat} {sd : Nat → Int32} {ow : Nat → Nat → Int32} {cn : Nat → Int32} {B : Nat} {q : List Pty} {li : List Nat} {mh : Nat} {fl : Int32} {w : va_W} (x : Int32) (y : Int32) (sz : Nat) (hI : IV z ow B q li mh) (hC : MW K m0 (z, sd, ow, cn, B, q, li, mh, fl) w) : gMi l yX3_book wsX3_book ({ frames := 7, cells := 0, slots := 0, locals := 260 } : Room) D vwCl (gT K) [.ref m0, .int x, .int y] w sz (RM K m0 (opBook z sd ow cn B q li mh fl x y)) 0 0 := by
  obtain ⟨ma, th, wl, fd, op, st, zs, ho, ba, se, lx, pe, lt, le, wa, ta, rfl, rfl, hMS, hLc, hQ⟩ := hC
  exact m_book l D K ma op st zs ho ba se lx cn pe lt le wa ta th wl fd z sd ow B mh fl q li x y sz hI.1 hI.2.2.2.2.1 hI.2.2.2.2.2.1 hI.2.2.2.2.2.2.1 hI.2.2.1 hMS hLc hQ
theorem H_cancel (l : Launch) (D : va_G) (K : gCl) {h0 : Nat} {z : Nat → Nat} {sd : Nat → Int32} {ow : Nat → Nat → Int32} {cn : Nat → Int32} {B : Nat} {q : List Pty} {li : List Nat} {mh : Nat} {fl : Int32} {w : va_W} (x : Int32) (sz : Nat) (hI : IV z ow B q li mh) (hC : CW K h0 (z, sd, ow, cn, B, q, li, mh, fl) w) : gMi l yX2_cancel wsX2_cancel ({ frames := 14, cells := 0, slots := 0, locals := 420 } : Room) D vwCl (gT K) [.ref h0, .int x] w sz (RP K h0 (opCancel z sd ow cn B q li mh fl x)) 0 0 := by
  obtain ⟨a, ho, bk, pl, pn, pm, nm, co, qu, rfl, rfl, hM, hPs, hlc, hLc⟩ := hC
  exact h_cancel l D K a z sd ho bk ow pl pn pm nm cn co qu B mh fl q li x sz hI.1 hI.2.2.2.2.1 hI.2.2.2.2.2.1 hI.2.2.2.2.2.2.1 hM hPs hlc hLc
theorem M_cancel (l : Launch) (D : va_G) (K : gCl) {m0 : Nat} {z : Nat → Nat} {sd : Nat → Int32} {ow : Nat → Nat → Int32} {cn : Nat → Int32} {B : Nat} {q : List Pty} {li : List Nat} {mh : Nat} {fl : Int32} {w : va_W} (x : Int32) (sz : Nat) (hI : IV z ow B q li mh) (hC : MW K m0 (z, sd, ow, cn, B, q, li, mh, fl) w) : gMi l yX3_cancel wsX3_cancel ({ frames := 7, cells := 0, slots := 0, locals := 260 } : Room) D vwCl (gT K) [.ref m0, .int x] w sz (RM K m0 (opCancel z sd ow cn B q li mh fl x)) 0 0 := by
  obtain ⟨ma, th, wl, fd, op, st, zs, ho, ba, se, lx, pe, lt, le, wa, ta, rfl, rfl, hMS, hLc, hQ⟩ := hC
  exact m_cancel l D K ma op st zs ho ba se lx cn pe lt le wa ta th wl fd z sd ow B mh fl q li x sz hI.1 hI.2.2.2.2.1 hI.2.2.2.2.2.1 hI.2.2.2.2.2.2.1 hI.2.2.1 hMS hLc hQ hI.2.2.2.1
theorem H_leave (l : Launch) (D : va_G) (K : gCl) {h0 : Nat} {z : Nat → Nat} {sd : Nat → Int32} {ow : Nat → Nat → Int32} {cn : Nat → Int32} {B : Nat} {q : List Pty} {li : List Nat} {mh : Nat} {fl : Int32} {w : va_W} (x : Int32) (sz : Nat) (hI : IV z ow B q li mh) (hC : CW K h0 (z, sd, ow, cn, B, q, li, mh, fl) w) : gMi l yX2_leave wsX2_leave ({ frames := 14, cells := 0, slots := 0, locals := 420 } : Room) D vwCl (gT K) [.ref h0, .int x] w sz (RP K h0 (opLeave z sd ow cn B q li mh fl x)) 0 0 := by
  obtain ⟨a, ho, bk, pl, pn, pm, nm, co, qu, rfl, rfl, hM, hPs, hlc, hLc⟩ := hC
  exact h_leave l D K a z sd ho bk ow pl pn pm nm cn co qu B mh fl q li x sz hI.1 hI.2.2.2.2.1 hI.2.2.2.2.2.1 hI.2.2.2.2.2.2.1 hM hPs hlc hLc
theorem M_leave (l : Launch) (D : va_G) (K : gCl) {m0 : Nat} {z : Nat → Nat} {sd : Nat → Int32} {ow : Nat → Nat → Int32} {cn : Nat → Int32} {B : Nat} {q : List Pty} {li : List Nat} {mh : Nat} {fl : Int32} {w : va_W} (x : Int32) (sz : Nat) (hI : IV z ow B q li mh) (hC : MW K m0 (z, sd, ow, cn, B, q, li, mh, fl) w) : gMi l yX3_leave wsX3_leave ({ frames := 7, cells := 0, slots := 0, locals := 260 } : Room) D vwCl (gT K) [.ref m0, .int x] w sz (RM K m0 (opLeave z sd ow cn B q li mh fl x)) 0 0 := by
  obtain ⟨ma, th, wl, fd, op, st, zs, ho, ba, se, lx, pe, lt, le, wa, ta, rfl, rfl, hMS, hLc, hQ⟩ := hC
  exact m_leave l D K ma op st zs ho ba se lx cn pe lt le wa ta th wl fd z sd ow B mh fl q li x sz hI.1 hI.2.2.2.2.1 hI.2.2.2.2.2.1 hI.2.2.2.2.2.2.1 hI.2.2.1 hMS hLc hQ
theorem H_seat (l : Launch) (D : va_G) (K : gCl) {h0 : Nat} {z : Nat → Nat} {sd : Nat → Int32} {ow : Nat → Nat → Int32} {cn : Nat → Int32} {B : Nat} {q : List Pty} {li : List Nat} {mh : Nat} {fl : Int32} {w : va_W} (x : Int32) (y : Int32) (sz : Nat) (hI : IV z ow B q li mh) (hC : CW K h0 (z, sd, ow, cn, B, q, li, mh, fl) w) : gMi l yX2_seat wsX2_seat ({ frames := 14, cells := 0, slots := 0, locals := 420 } : Room) D vwCl (gT K) [.ref h0, .int x, .int y] w sz (RP K h0 (opSeat z sd ow cn B q li mh fl x y)) 0 0 := by
  obtain ⟨a, ho, bk, pl, pn, pm, nm, co, qu, rfl, rfl, hM, hPs, hlc, hLc⟩ := hC
  exact h_seat l D K a z sd ho bk ow pl pn pm nm cn co qu B mh fl q li x y sz hI.1 hI.2.2.2.2.1 hI.2.2.2.2.2.1 hI.2.2.2.2.2.2.1 hM hPs hlc hLc
theorem M_seat (l : Launch) (D : va_G) (K : gCl) {m0 : Nat} {z : Nat → Nat} {sd : Nat → Int32} {ow : Nat → Nat → Int32} {cn : Nat → Int32} {B : Nat} {q : List Pty} {li : List Nat} {mh : Nat} {fl : Int32} {w : va_W} (x : Int32) (y : Int32) (sz : Nat) (hI : IV z ow B q li mh) (hC : MW K m0 (z, sd, ow, cn, B, q, li, mh, fl) w) : gMi l yX3_seat wsX3_seat ({ frames := 7, cells := 0, slots := 0, locals := 260 } : Room) D vwCl (gT K) [.ref m0, .int x, .int y] w sz (RM K m0 (opSeat z sd ow cn B q li mh fl x y)) 0 0 := by
  obtain ⟨ma, th, wl, fd, op, st, zs, ho, ba, se, lx, pe, lt, le, wa, ta, rfl, rfl, hMS, hLc, hQ⟩ := hC
  exact m_seat l D K ma op st zs ho ba se lx cn pe lt le wa ta th wl fd z sd ow B mh fl q li x y sz hI.1 hI.2.2.2.2.1 hI.2.2.2.2.2.1 hI.2.2.2.2.2.2.1 hI.2.2.1 hMS hLc hQ
theorem H_has (l : Launch) (D : va_G) (K : gCl) {h0 : Nat} {z : Nat → Nat} {sd : Nat → Int32} {ow : Nat → Nat → Int32} {cn : Nat → Int32} {B : Nat} {q : List Pty} {li : List Nat} {mh : Nat} {fl : Int32} {w : va_W} (x : Int32) (y : Int32) (sz : Nat) (hI : IV z ow B q li mh) (hC : CW K h0 (z, sd, ow, cn, B, q, li, mh, fl) w) : gMi l yX2_has wsX2_has ({ frames := 14, cells := 0, slots := 0, locals := 420 } : Room) D vwCl (gT K) [.ref h0, .int x, .int y] w sz (RP K h0 (opHas z sd ow cn B q li mh fl x y)) 0 0 := by
  obtain ⟨a, ho, bk, pl, pn, pm, nm, co, qu, rfl, rfl, hM, hPs, hlc, hLc⟩ := hC
  exact h_has l D K a z sd ho bk ow pl pn pm nm cn co qu B mh fl q li x y sz hI.1 hI.2.2.2.2.1 hI.2.2.2.2.2.1 hI.2.2.2.2.2.2.1 hM hPs hlc hLc
theorem M_has (l : Launch) (D : va_G) (K : gCl) {m0 : Nat} {z : Nat → Nat} {sd : Nat → Int32} {ow : Nat → Nat → Int32} {cn : Nat → Int32} {B : Nat} {q : List Pty} {li : List Nat} {mh : Nat} {fl : Int32} {w : va_W} (x : Int32) (y : Int32) (sz : Nat) (hI : IV z ow B q li mh) (hC : MW K m0 (z, sd, ow, cn, B, q, li, mh, fl) w) : gMi l yX3_has wsX3_has ({ frames := 7, cells := 0, slots := 0, locals := 260 } : Room) D vwCl (gT K) [.ref m0, .int x, .int y] w sz (RM K m0 (opHas z sd ow cn B q li mh fl x y)) 0 0 := by
  obtain ⟨ma, th, wl, fd, op, st, zs, ho, ba, se, lx, pe, lt, le, wa, ta, rfl, rfl, hMS, hLc, hQ⟩ := hC
  exact m_has l D K ma op st zs ho ba se lx cn pe lt le wa ta th wl fd z sd ow B mh fl q li x y sz hI.1 hI.2.2.2.2.1 hI.2.2.2.2.2.1 hI.2.2.2.2.2.2.1 hI.2.2.1 hMS hLc hQ
theorem H_about (l : Launch) (D : va_G) (K : gCl) {h0 : Nat} {z : Nat → Nat} {sd : Nat → Int32} {ow : Nat → Nat → Int32} {cn : Nat → Int32} {B : Nat} {q : List Pty} {li : List Nat} {mh : Nat} {fl : Int32} {w : va_W} (x : Int32) (y : Int32) (sz : Nat) (hI : IV z ow B q li mh) (hC : CW K h0 (z, sd, ow, cn, B, q, li, mh, fl) w) : gMi l yX2_about wsX2_about ({ frames := 14, cells := 0, slots := 0, locals := 420 } : Room) D vwCl (gT K) [.ref h0, .int x, .int y] w sz (fun _ w1 => CW K h0 (z, sd, ow, cn, B, q, li, mh, fl) w1) 0 0 := by
  obtain ⟨a, ho, bk, pl, pn, pm, nm, co, qu, rfl, rfl, hM, hPs, hlc, hLc⟩ := hC
  exact h_about l D K a z sd ho bk ow pl pn pm nm cn co qu B mh fl q li x y sz hI.1 hI.2.2.2.2.1 hI.2.2.2.2.2.1 hI.2.2.2.2.2.2.1 hM hPs hlc hLc
theorem M_about (l : Launch) (D : va_G) (K : gCl) {m0 : Nat} {z : Nat → Nat} {sd : Nat → Int32} {ow : Nat → Nat → Int32} {cn : Nat → Int32} {B : Nat} {q : List Pty} {li : List Nat} {mh : Nat} {fl : Int32} {w : va_W} (x : Int32) (y : Int32) (sz : Nat) (hI : IV z ow B q li mh) (hC : MW K m0 (z, sd, ow, cn, B, q, li, mh, fl) w) : gMi l yX3_about wsX3_about ({ frames := 7, cells := 0, slots := 0, locals := 260 } : Room) D vwCl (gT K) [.ref m0, .int x, .int y] w sz (fun _ w1 => MW K m0 (z, sd, ow, cn, B, q, li, mh, fl) w1) 0 0 := by
  obtain ⟨ma, th, wl, fd, op, st, zs, ho, ba, se, lx, pe, lt, le, wa, ta, rfl, rfl, hMS, hLc, hQ⟩ := hC
  exact m_about l D K ma op st zs ho ba se lx cn pe lt le wa ta th wl fd z sd ow B mh fl q li x y sz hI.1 hI.2.2.2.2.1 hI.2.2.2.2.2.1 hI.2.2.2.2.2.2.1 hI.2.2.1 hMS hLc hQ
theorem H_told (l : Launch) (D : va_G) (K : gCl) {h0 : Nat} {z : Nat → Nat} {sd : Nat → Int32} {ow : Nat → Nat → Int32} {cn : Nat → Int32} {B : Nat} {q : List Pty} {li : List Nat} {mh : Nat} {fl : Int32} {w : va_W} (x : Int32) (sz : Nat) (hI : IV z ow B q li mh) (hC : CW K h0 (z, sd, ow, cn, B, q, li, mh, fl) w) : gMi l yX2_told wsX2_told ({ frames := 14, cells := 0, slots := 0, locals := 420 } : Room) D vwCl (gT K) [.ref h0, .int x] w sz (RP K h0 (opTold z sd ow cn B q li mh fl x)) 0 0 := by
  obtain ⟨a, ho, bk, pl, pn, pm, nm, co, qu, rfl, rfl, hM, hPs, hlc, hLc⟩ := hC
  exact h_told l D K a z sd ho bk ow pl pn pm nm cn co qu B mh fl q li x sz hI.1 hI.2.2.2.2.1 hI.2.2.2.2.2.1 hI.2.2.2.2.2.2.1 hM hPs hlc hLc
theorem M_told (l : Launch) (D : va_G) (K : gCl) {m0 : Nat} {z : Nat → Nat} {sd : Nat → Int32} {ow : Nat → Nat → Int32} {cn : Nat → Int32} {B : Nat} {q : List Pty} {li : List Nat} {mh : Nat} {fl : Int32} {w : va_W} (x : Int32) (sz : Nat) (hI : IV z ow B q li mh) (hC : MW K m0 (z, sd, ow, cn, B, q, li, mh, fl) w) : gMi l yX3_told wsX3_told ({ frames := 7, cells := 0, slots := 0, locals := 260 } : Room) D vwCl (gT K) [.ref m0, .int x] w sz (RM K m0 (opTold z sd ow cn B q li mh fl x)) 0 0 := by
  obtain ⟨ma, th, wl, fd, op, st, zs, ho, ba, se, lx, pe, lt, le, wa, ta, rfl, rfl, hMS, hLc, hQ⟩ := hC
  exact m_told l D K ma op st zs ho ba se lx cn pe lt le wa ta th wl fd z sd ow B mh fl q li x sz hI.1 hI.2.2.2.2.1 hI.2.2.2.2.2.1 hI.2.2.2.2.2.2.1 hI.2.2.1 hMS hLc hQ
theorem H_waiting (l : Launch) (D : va_G) (K : gCl) {h0 : Nat} {z : Nat → Nat} {sd : Nat → Int32} {ow : Nat → Nat → Int32} {cn : Nat → Int32} {B : Nat} {q : List Pty} {li : List Nat} {mh : Nat} {fl : Int32} {w : va_W} (x : Int32) (sz : Nat) (hI : IV z ow B q li mh) (hC : CW K h0 (z, sd, ow, cn, B, q, li, mh, fl) w) : gMi l yX2_waiting wsX2_waiting ({ frames := 14, cells := 0, slots := 0, locals := 420 } : Room) D vwCl (gT K) [.ref h0, .int x] w sz (RP K h0 (opWaiting z sd ow cn B q li mh fl x)) 0 0 := by
  obtain ⟨a, ho, bk, pl, pn, pm, nm, co, qu, rfl, rfl, hM, hPs, hlc, hLc⟩ := hC
  exact h_waiting l D K a z sd ho bk ow pl pn pm nm cn co qu B mh fl q li x sz hI.1 hI.2.2.2.2.1 hI.2.2.2.2.2.1 hI.2.2.2.2.2.2.1 hM hPs hlc hLc
theorem M_waiting (l : Launch) (D : va_G) (K : gCl) {m0 : Nat} {z : Nat → Nat} {sd : Nat → Int32} {ow : Nat → Nat → Int32} {cn : Nat → Int32} {B : Nat} {q : List Pty} {li : List Nat} {mh : Nat} {fl : Int32} {w : va_W} (x : Int32) (sz : Nat) (hI : IV z ow B q li mh) (hC : MW K m0 (z, sd, ow, cn, B, q, li, mh, fl) w) : gMi l yX3_waiting wsX3_waiting ({ frames := 7, cells := 0, slots := 0, locals := 260 } : Room) D vwCl (gT K) [.ref m0, .int x] w sz (RM K m0 (opWaiting z sd ow cn B q li mh fl x)) 0 0 := by
  obtain ⟨ma, th, wl, fd, op, st, zs, ho, ba, se, lx, pe, lt, le, wa, ta, rfl, rfl, hMS, hLc, hQ⟩ := hC
  exact m_waiting l D K ma op st zs ho ba se lx cn pe lt le wa ta th wl fd z sd ow B mh fl q li x sz hI.1 hI.2.2.2.2.1 hI.2.2.2.2.2.1 hI.2.2.2.2.2.2.1 hI.2.2.1 hMS hLc hQ
