/-! WHAT A STATE IS. K: the classes of int[], boolean[], Row[], Party[]. -/
abbrev gCl : Type := ClassId × ClassId × ClassId × ClassId
abbrev gT (K : gCl) : List (ClassId × FieldType) := [(K.1, .int), (K.2.1, .boolean), (K.2.2.1, .object RX1), (K.2.2.2, .object RX0)]
abbrev gArr (cI : ClassId) (n : Nat) (f : Nat → Int32) : va_E := .inl (cI, n, .inl f)
abbrev gRef (cI : ClassId) (n : Nat) (f : Nat → Option Nat) : va_E := .inl (cI, n, .inr (.inr (.inr (.inr f))))
abbrev gRow (oa : Nat) (z sd ho bk : Int32) : va_E := .inr (1, [.ref oa, .int z, .int sd, .int ho, .int bk])
abbrev gPar (na : Nat) (li sz mo : Int32) : va_E := .inr (0, [.ref na, .int li, .int sz, .int mo])
abbrev gObj (hr hc hq co : Nat) (bk wt mh fl : Int32) : va_E := .inr (2, [.ref hr, .ref hc, .ref hq, .ref co, .int bk, .int wt, .int mh, .int fl])
def gRf (n : Nat) (ra : Nat → Nat) : Nat → Option Nat := fun i => if i < n then some (ra i) else none
/-- a hall: rows rv (size, side by side, holds, backs) with owners ow; parties pv (listed, size, mode) with numbers nm; the coming one is co, those of the queue qu -/
def gsW (K : gCl) (h0 hr hc hq : Nat) (ra oa pa na : Nat → Nat) (rv : Nat → Int32 × Int32 × Int32 × Int32) (ow : Nat → Nat → Int32) (pv : Nat → Int32 × Int32 × Int32) (nm : Nat → Nat → Int32) (cn : Nat → Int32) (co : Nat) (qu : Nat → Nat) (bk wt mh fl : Int32) : va_W :=
  (h0, gObj hr hc hq (pa co) bk wt mh fl) :: (hr, gRef K.2.2.1 10 (gRf 10 ra)) :: (hc, gArr K.2.1 40 cn) :: (hq, gRef K.2.2.2 8 (gRf 8 (fun k => pa (qu k)))) ::
    (g2 10 (fun i => (ra i, gRow (oa i) (rv i).1 (rv i).2.1 (rv i).2.2.1 (rv i).2.2.2)) (fun i => (oa i, gArr K.1 20 (ow i))) ++
      g2 9 (fun j => (pa j, gPar (na j) (pv j).1 (pv j).2.1 (pv j).2.2)) (fun j => (na j, gArr K.1 6 (nm j))))
/-- a new hall -/
def gsN (K : gCl) (h0 hr hc hq : Nat) (ra oa pa na : Nat → Nat) : va_W :=
  gsW K h0 hr hc hq ra oa pa na (fun _ => (0, 0, 0, 0)) (fun _ _ => 0) (fun _ => (0, 0, 0)) (fun _ _ => 0) (fun _ => 0) 0 (fun k => k + 1) 0 0 0 0
section GSW
variable {K : gCl} {h0 hr hc hq : Nat} {ra oa pa na : Nat → Nat} {rv : Nat → Int32 × Int32 × Int32 × Int32} {ow : Nat → Nat → Int32} {pv : Nat → Int32 × Int32 × Int32} {nm : Nat → Nat → Int32} {cn : Nat → Int32} {co : Nat} {qu : Nat → Nat} {bk wt mh fl : Int32}
theorem gsW_row {j : Nat} (hj : j < 10) : (gsW K h0 hr hc hq ra oa pa na rv ow pv nm cn co qu bk wt mh fl)[2 * j + 4]? = some (ra j, gRow (oa j) (rv j).1 (rv j).2.1 (rv j).2.2.1 (rv j).2.2.2) := by
  have h := g2_get0 (n := 10) (f := fun i => (ra i, gRow (oa i) (rv i).1 (rv i).2.1 (rv i).2.2.1 (rv i).2.2.2)) (g := fun i => (oa i, gArr K.1 20 (ow i))) (r := g2 9 (fun j => (pa j, gPar (na j) (pv j).1 (pv j).2.1 (pv j).2.2)) (fun j => (na j, gArr K.1 6 (nm j)))) hj
  exact h
theorem gsW_own {j : Nat} (hj : j < 10) : (gsW K h0 hr hc hq ra oa pa na rv ow pv nm cn co qu bk wt mh fl)[2 * j + 1 + 4]? = some (oa j, gArr K.1 20 (ow j)) := by
  have h := g2_get1 (n := 10) (f := fun i => (ra i, gRow (oa i) (rv i).1 (rv i).2.1 (rv i).2.2.1 (rv i).2.2.2)) (g := fun i => (oa i, gArr K.1 20 (ow i))) (r := g2 9 (fun j => (pa j, gPar (na j) (pv j).1 (pv j).2.1 (pv j).2.2)) (fun j => (na j, gArr K.1 6 (nm j)))) hj
  exact h
theorem gsW_par {j : Nat} (hj : j < 9) : (gsW K h0 hr hc hq ra oa pa na rv ow pv nm cn co qu bk wt mh fl)[2 * j + 20 + 4]? = some (pa j, gPar (na j) (pv j).1 (pv j).2.1 (pv j).2.2) := by
  have h := g2_get0 (n := 9) (f := fun j => (pa j, gPar (na j) (pv j).1 (pv j).2.1 (pv j).2.2)) (g := fun j => (na j, gArr K.1 6 (nm j))) (r := []) hj
  rw [List.append_nil] at h
  have h2 := g2_skip (n := 10) (f := fun i => (ra i, gRow (oa i) (rv i).1 (rv i).2.1 (rv i).2.2.1 (rv i).2.2.2)) (g := fun i => (oa i, gArr K.1 20 (ow i))) (r := g2 9 (fun j => (pa j, gPar (na j) (pv j).1 (pv j).2.1 (pv j).2.2)) (fun j => (na j, gArr K.1 6 (nm j)))) (j := 2 * j + 20) (k := 2 * j) (by omega)
  exact h2.trans h
theorem gsW_num {j : Nat} (hj : j < 9) : (gsW K h0 hr hc hq ra oa pa na rv ow pv nm cn co qu bk wt mh fl)[2 * j + 1 + 20 + 4]? = some (na j, gArr K.1 6 (nm j)) := by
  have h := g2_get1 (n := 9) (f := fun j => (pa j, gPar (na j) (pv j).1 (pv j).2.1 (pv j).2.2)) (g := fun j => (na j, gArr K.1 6 (nm j))) (r := []) hj
  rw [List.append_nil] at h
  have h2 := g2_skip (n := 10) (f := fun i => (ra i, gRow (oa i) (rv i).1 (rv i).2.1 (rv i).2.2.1 (rv i).2.2.2)) (g := fun i => (oa i, gArr K.1 20 (ow i))) (r := g2 9 (fun j => (pa j, gPar (na j) (pv j).1 (pv j).2.1 (pv j).2.2)) (fun j => (na j, gArr K.1 6 (nm j)))) (j := 2 * j + 1 + 20) (k := 2 * j + 1) (by omega)
  exact h2.trans h
end GSW
theorem gRf_at {n : Nat} {ra : Nat → Nat} {j : Nat} (hj : j < n) (hn : n < 2 ^ 31) : gRf n ra (nI j).toNatClampNeg = some (ra j) := by
  rw [nI_clamp (by omega)]
  simp [gRf, hj]
theorem gRf_up {n : Nat} {ra : Nat → Nat} {q : Nat} : va_up (gRf n ra) n (some q) = gRf (n + 1) (va_up ra n q) := by
  funext j
  by_cases h : j = n
  · subst h
    simp [gRf, va_up]
  · by_cases h2 : j < n
    · simp [gRf, va_up, h, h2, show j < n + 1 by omega]
    · simp [gRf, va_up, h, h2, show ¬ j < n + 1 by omega]
theorem gRf_0 (ra : Nat → Nat) : (fun _ => none) = gRf 0 ra := by
  funext j
  simp [gRf]
theorem g_ix {x : Int32} {n : Nat} {M : Int32} (hM : M.toInt = n) (h : 0 ≤ x ∧ x < M) : ∃ j : Nat, j < n ∧ x = nI j := by
  obtain ⟨h1, h2⟩ := h
  obtain ⟨j, hj, rfl⟩ := nI_of (x := x) (by rw [Int32.le_iff_toInt_le] at h1; rw [Int32.lt_iff_toInt_lt]; omega)
  rw [Int32.lt_iff_toInt_lt, nI_toInt hj, hM] at h2
  exact ⟨j, by omega, rfl⟩
/-- the model: one object, 13 arrays -/
abbrev gMob (ma : Nat → Nat) (th li bk wt mo fl wl fd : Int32) : va_E := .inr (3, [.int th, .ref (ma 1), .ref (ma 2), .ref (ma 3), .ref (ma 4), .ref (ma 5), .ref (ma 6), .ref (ma 7), .int li, .int bk, .ref (ma 8), .ref (ma 9), .ref (ma 10), .ref (ma 11), .int wt, .int mo, .int fl, .ref (ma 12), .int wl, .ref (ma 13), .int fd])
def mW (K : gCl) (ma : Nat → Nat) (th li bk wt mo fl wl fd : Int32) (op st sz ho ba se ls cn pe lt le wa ta : Nat → Int32) : va_W :=
  [(ma 0, gMob ma th li bk wt mo fl wl fd), (ma 1, gArr K.2.1 10 op), (ma 2, gArr K.2.1 10 st), (ma 3, gArr K.1 10 sz), (ma 4, gArr K.1 10 ho), (ma 5, gArr K.1 10 ba), (ma 6, gArr K.1 200 se), (ma 7, gArr K.1 6 ls), (ma 8, gArr K.2.1 40 cn), (ma 9, gArr K.1 8 pe), (ma 10, gArr K.1 48 lt), (ma 11, gArr K.1 8 le), (ma 12, gArr K.1 6 wa), (ma 13, gArr K.1 6 ta)]
def mN (K : gCl) (ma : Nat → Nat) : va_W := mW K ma 0 0 0 0 0 0 0 0 (fun _ => 0) (fun _ => 0) (fun _ => 0) (fun _ => 0) (fun _ => 0) (fun _ => 0) (fun _ => 0) (fun _ => 0) (fun _ => 0) (fun _ => 0) (fun _ => 0) (fun _ => 0) (fun _ => 0)
section GX
variable {p : Program} {l : Launch} {e : Env} {R : Room} {s : State} {m : MethodId} {args : Array Value} {below : List Frame} {meth : Method} {c : Code} {H : Heap} {locs : List Loc} {cells slots : Nat} {Q : State → Prop}
variable {cc : ByteArray} {pc : Nat} {ls : Array Slot} {rest : List Value} {D : va_G} {cl : List vw_C} {A : Nat → Prop} {a : Nat} {tys : List (ClassId × FieldType)} {ws : va_W} {H0 : Heap}
theorem g_aldq (hexec : p.tables.exec = Jvm.exec) (hb : c.code = cc) (hK : va_K D cl tys s) (hP : va_P D cl ws H) (q0 t0 : Nat) {cA : ClassId} {C : String} {n v : Nat} {f : Nat → Option Nat} (ha : ws[q0]? = some (a, .inl (cA, n, .inr (.inr (.inr (.inr f)))))) (ht : tys[t0]? = some (cA, .object C)) {i : Int32} (hin : vp_in i n) (hf : f i.toNatClampNeg = some v) (hdg : decode cc pc = .ok (.aaload, 1))
    (kk : W p l e R s m args below meth c H locs cells slots Q (F0 m (pc + 1) ls (.ref v :: rest))) : W p l e R s m args below meth c H locs cells slots Q (F0 m pc ls (.int i :: .ref a :: rest)) :=
  va_aldq hexec hb hK hP q0 t0 ha ht hin hdg (by rw [hf]; exact kk)
end GX
/-- the numbers of the comparisons -/
theorem gl_m1 : (-1 : Int32).toInt = -1 := rfl
theorem gl_0 : (0 : Int32).toInt = 0 := rfl
theorem gl_1 : (1 : Int32).toInt = 1 := rfl
theorem gl_2 : (2 : Int32).toInt = 2 := rfl
theorem gl_3 : (3 : Int32).toInt = 3 := rfl
theorem gl_5 : (5 : Int32).toInt = 5 := rfl
theorem gl_6 : (6 : Int32).toInt = 6 := rfl
theorem gl_8 : (8 : Int32).toInt = 8 := rfl
theorem gl_9 : (9 : Int32).toInt = 9 := rfl
theorem gl_10 : (10 : Int32).toInt = 10 := rfl
theorem gl_11 : (11 : Int32).toInt = 11 := rfl
theorem gl_20 : (20 : Int32).toInt = 20 := rfl
theorem gl_40 : (40 : Int32).toInt = 40 := rfl
theorem gl_60 : (60 : Int32).toInt = 60 := rfl
