/-! Pairs of cells, n of them, side by side in a world: an object and its array -/
def g2 (n : Nat) (f g : Nat → Nat × va_E) : va_W := (List.range (2 * n)).map (fun k => if k % 2 = 0 then f (k / 2) else g (k / 2))
theorem g2_len (n : Nat) (f g : Nat → Nat × va_E) : (g2 n f g).length = 2 * n := by simp [g2]
theorem g2_at {n : Nat} {f g : Nat → Nat × va_E} {r : va_W} {k : Nat} (h : k < 2 * n) : (g2 n f g ++ r)[k]? = some (if k % 2 = 0 then f (k / 2) else g (k / 2)) := by
  rw [List.getElem?_append_left (by rw [g2_len]; exact h)]
  simp [g2, h]
theorem g2_get0 {n : Nat} {f g : Nat → Nat × va_E} {r : va_W} {i : Nat} (h : i < n) : (g2 n f g ++ r)[2 * i]? = some (f i) := by
  rw [g2_at (by omega), if_pos (by omega), show 2 * i / 2 = i by omega]
theorem g2_get1 {n : Nat} {f g : Nat → Nat × va_E} {r : va_W} {i : Nat} (h : i < n) : (g2 n f g ++ r)[2 * i + 1]? = some (g i) := by
  rw [g2_at (by omega), if_neg (by omega), show (2 * i + 1) / 2 = i by omega]
theorem g2_skip {n : Nat} {f g : Nat → Nat × va_E} {r : va_W} {k j : Nat} (hj : j = 2 * n + k) : (g2 n f g ++ r)[j]? = r[k]? := by
  rw [List.getElem?_append_right (by rw [g2_len]; omega), g2_len, hj, Nat.add_sub_cancel_left]
theorem g2_set0 {n : Nat} {f g : Nat → Nat × va_E} {r : va_W} {i : Nat} {x : Nat × va_E} (h : i < n) : (g2 n f g ++ r).set (2 * i) x = g2 n (va_up f i x) g ++ r := by
  rw [List.set_append_left _ _ (by rw [g2_len]; omega)]
  congr 1
  apply List.ext_getElem?
  intro j
  by_cases hj : j = 2 * i
  · subst hj
    rw [List.getElem?_set_self (by rw [g2_len]; omega)]
    simp [g2, va_up, show 2 * i < 2 * n by omega]
  · rw [List.getElem?_set_ne (Ne.symm hj)]
    by_cases hl : j < 2 * n
    · simp only [g2, List.getElem?_map, List.getElem?_range hl, Option.map_some]
      by_cases hm : j % 2 = 0
      · rw [if_pos hm, if_pos hm, va_up_ne _ _ (by omega)]
      · rw [if_neg hm, if_neg hm]
    · rw [List.getElem?_eq_none (by rw [g2_len]; omega), List.getElem?_eq_none (by rw [g2_len]; omega)]
theorem g2_set1 {n : Nat} {f g : Nat → Nat × va_E} {r : va_W} {i : Nat} {x : Nat × va_E} (h : i < n) : (g2 n f g ++ r).set (2 * i + 1) x = g2 n f (va_up g i x) ++ r := by
  rw [List.set_append_left _ _ (by rw [g2_len]; omega)]
  congr 1
  apply List.ext_getElem?
  intro j
  by_cases hj : j = 2 * i + 1
  · subst hj
    rw [List.getElem?_set_self (by rw [g2_len]; omega)]
    simp only [g2, List.getElem?_map, List.getElem?_range (show 2 * i + 1 < 2 * n by omega), Option.map_some]
    rw [if_neg (by omega), show (2 * i + 1) / 2 = i by omega, va_up_self]
  · rw [List.getElem?_set_ne (Ne.symm hj)]
    by_cases hl : j < 2 * n
    · simp only [g2, List.getElem?_map, List.getElem?_range hl, Option.map_some]
      by_cases hm : j % 2 = 0
      · rw [if_pos hm, if_pos hm]
      · rw [if_neg hm, if_neg hm, va_up_ne _ _ (by omega)]
    · rw [List.getElem?_eq_none (by rw [g2_len]; omega), List.getElem?_eq_none (by rw [g2_len]; omega)]
theorem g2_setR {n : Nat} {f g : Nat → Nat × va_E} {r : va_W} {k j : Nat} {x : Nat × va_E} (hj : j = 2 * n + k) : (g2 n f g ++ r).set j x = g2 n f g ++ r.set k x := by
  rw [List.set_append_right _ _ (by rw [g2_len]; omega), g2_len, hj, Nat.add_sub_cancel_left]
theorem g2_0 (f g : Nat → Nat × va_E) : g2 0 f g = [] := rfl
theorem g2_congr {n : Nat} {f g f' g' : Nat → Nat × va_E} (h : ∀ i, i < n → f i = f' i ∧ g i = g' i) : g2 n f g = g2 n f' g' := by
  unfold g2
  apply List.map_congr_left
  intro k hk
  have hk := List.mem_range.mp hk
  rw [(h (k / 2) (by omega)).1, (h (k / 2) (by omega)).2]
theorem g2_succ (n : Nat) (f g : Nat → Nat × va_E) : g2 (n + 1) f g = g2 n f g ++ [f n, g n] := by
  unfold g2
  rw [show 2 * (n + 1) = 2 * n + 1 + 1 by omega, List.range_succ, List.range_succ]
  simp only [List.map_append, List.map_cons, List.map_nil, List.append_assoc, List.cons_append, List.nil_append]
  rw [if_pos (show 2 * n % 2 = 0 by omega), if_neg (show ¬ (2 * n + 1) % 2 = 0 by omega), show 2 * n / 2 = n by omega, show (2 * n + 1) / 2 = n by omega]
theorem g2_push {n : Nat} {f g : Nat → Nat × va_E} {x y : Nat × va_E} : g2 n f g ++ [x, y] = g2 (n + 1) (va_up f n x) (va_up g n y) := by
  rw [g2_succ, va_up_self, va_up_self]
  congr 1
  exact g2_congr (fun i hi => ⟨(va_up_ne _ _ (by omega)).symm, (va_up_ne _ _ (by omega)).symm⟩)
