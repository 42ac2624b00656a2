set_option maxHeartbeats 4000000 in
set_option maxRecDepth 100000 in
/-- the model: new -/
theorem m_init (l : Launch) (D : va_G) (K : gCl) (h0 : Nat) (sz : Nat)  : gMv l yX3_init wsX3_init ({ frames := 1, cells := 13, slots := 372, locals := 12 } : Room) D vwCl (gT K) [.ref h0] ([(h0, .inr (3, [.int 0, .null, .null, .null, .null, .null, .null, .null, .int 0, .int 0, .null, .null, .null, .null, .int 0, .int 0, .int 0, .null, .int 0, .null, .int 0]))]) sz (fun w => ∃ ma : Nat → Nat, ma 0 = h0 ∧ w = mN K ma) 13 372 := by
  refine g_of (cc := cX3_init) (maxL := 1) (ret := none) (Qc := fun A => va_Qv (fun w => ∃ ma : Nat → Nat, ma 0 = h0 ∧ w = mN K ma) (gB D vwCl (gT K) A) A) (by decide) rfl (Nat.le_of_ble_eq_true rfl) ?_
  intro p e s m below meth c A ls I hl
  have I0 := I
  obtain ⟨hx, hb, hr, hml, hown, hts, hlocks, hnm, hA, hK, hP, hD, hS⟩ := I
  have hown : s.vm.findClass RX3 = some m.cls := hown
  have hl : lv_has ls 1 [(0, .ref h0)] := hl
  have hi_X3 : ∀ w ∈ u_ws RX3 TX3 21, w ∈ wsX3_init := by decide +kernel
  have hoi : Cond.code objectInit ⟨#[0xb1]⟩ 1 none ∈ wsX3_init := List.mem_cons_of_mem _ (List.mem_append_left _ (List.mem_of_getElem? (i := 2) rfl))
  refine lv_aload_n hx hb dX3_init_0 rfl (lv_at hl 0 rfl) ?_
  refine W.objInit hx hb hown (hts (.methodLink RX3 1 objectInit) (by decide +kernel)) (hts (.instanceMethod objectInit) (by decide +kernel)) (hts _ hoi) rfl (by rw [hml]; exact hl.1) rfl dX3_init_1 (Nat.le_of_ble_eq_true rfl) (Nat.le_of_ble_eq_true rfl) ?_
  refine W.eq (g2 := F0 m 4 ls []) rfl ?_
  refine lv_aload_n hx hb dX3_init_4 rfl (lv_at hl 0 rfl) ?_
  refine lv_bipush (v := 10) hx hb dX3_init_5 (by decide) ?_
  refine g_newa (atype := .boolean) (ty := .boolean) (N' := 10) (a0 := (10, .inl (fun _ => 0))) hx hb (hts (.arrayClass .boolean) (by decide +kernel)) rfl hK hP hD hS hA 1 rfl (fun _ => rfl) (by decide) (by decide) (Nat.le_of_ble_eq_true rfl) (Nat.le_of_ble_eq_true rfl) (Nat.le_of_ble_eq_true rfl) dX3_init_7 (fun q1 H hP hD hS => ?_)
  have hP : va_P D vwCl [(h0, .inr (3, [.int 0, .null, .null, .null, .null, .null, .null, .null, .int 0, .int 0, .null, .null, .null, .null, .int 0, .int 0, .int 0, .null, .int 0, .null, .int 0])), (q1, gArr K.2.1 10 (fun _ => 0))] H := hP
  have hD : va_D A [(h0, .inr (3, [.int 0, .null, .null, .null, .null, .null, .null, .null, .int 0, .int 0, .null, .null, .null, .null, .int 0, .int 0, .int 0, .null, .int 0, .null, .int 0])), (q1, gArr K.2.1 10 (fun _ => 0))] := hD
  refine va_putF (C := RX3) (T := TX3) (N := 21) (ci := 3) (ty := .array .boolean) hx hb hts hi_X3 tyX3 tyX3_ok nmX3 hown hK hP hD hS (0) (rfl) rfl 1 (by decide) (hts (.fieldLink RX3 7 "GroupSeatsModel" "isOpen" "[Z") (by decide +kernel)) (fun _ h9 => h9) rfl hnm rfl (by decide +kernel) rfl rfl (Nat.le_of_ble_eq_true rfl) dX3_init_9 (fun H locs hP hD hS => ?_)
  have hP : va_P D vwCl [(h0, .inr (3, [.int 0, .ref q1, .null, .null, .null, .null, .null, .null, .int 0, .int 0, .null, .null, .null, .null, .int 0, .int 0, .int 0, .null, .int 0, .null, .int 0])), (q1, gArr K.2.1 10 (fun _ => 0))] H := hP
  have hD : va_D A [(h0, .inr (3, [.int 0, .ref q1, .null, .null, .null, .null, .null, .null, .int 0, .int 0, .null, .null, .null, .null, .int 0, .int 0, .int 0, .null, .int 0, .null, .int 0])), (q1, gArr K.2.1 10 (fun _ => 0))] := hD
  refine lv_aload_n hx hb dX3_init_12 rfl (lv_at hl 0 rfl) ?_
  refine lv_bipush (v := 10) hx hb dX3_init_13 (by decide) ?_
  refine g_newa (atype := .boolean) (ty := .boolean) (N' := 10) (a0 := (10, .inl (fun _ => 0))) hx hb (hts (.arrayClass .boolean) (by decide +kernel)) rfl hK hP hD hS hA 1 rfl (fun _ => rfl) (by decide) (by decide) (Nat.le_of_ble_eq_true rfl) (Nat.le_of_ble_eq_true rfl) (Nat.le_of_ble_eq_true rfl) dX3_init_15 (fun q2 H hP hD hS => ?_)
  have hP : va_P D vwCl [(h0, .inr (3, [.int 0, .ref q1, .null, .null, .null, .null, .null, .null, .int 0, .int 0, .null, .null, .null, .null, .int 0, .int 0, .int 0, .null, .int 0, .null, .int 0])), (q1, gArr K.2.1 10 (fun _ => 0)), (q2, gArr K.2.1 10 (fun _ => 0))] H := hP
  have hD : va_D A [(h0, .inr (3, [.int 0, .ref q1, .null, .null, .null, .null, .null, .null, .int 0, .int 0, .null, .null, .null, .null, .int 0, .int 0, .int 0, .null, .int 0, .null, .int 0])), (q1, gArr K.2.1 10 (fun _ => 0)), (q2, gArr K.2.1 10 (fun _ => 0))] := hD
  refine va_putF (C := RX3) (T := TX3) (N := 21) (ci := 3) (ty := .array .boolean) hx hb hts hi_X3 tyX3 tyX3_ok nmX3 hown hK hP hD hS (0) (rfl) rfl 2 (by decide) (hts (.fieldLink RX3 13 "GroupSeatsModel" "isStrict" "[Z") (by decide +kernel)) (fun _ h9 => h9) rfl hnm rfl (by decide +kernel) rfl rfl (Nat.le_of_ble_eq_true rfl) dX3_init_17 (fun H locs hP hD hS => ?_)
  have hP : va_P D vwCl [(h0, .inr (3, [.int 0, .ref q1, .ref q2, .null, .null, .null, .null, .null, .int 0, .int 0, .null, .null, .null, .null, .int 0, .int 0, .int 0, .null, .int 0, .null, .int 0])), (q1, gArr K.2.1 10 (fun _ => 0)), (q2, gArr K.2.1 10 (fun _ => 0))] H := hP
  have hD : va_D A [(h0, .inr (3, [.int 0, .ref q1, .ref q2, .null, .null, .null, .null, .null, .int 0, .int 0, .null, .null, .null, .null, .int 0, .int 0, .int 0, .null, .int 0, .null, .int 0])), (q1, gArr K.2.1 10 (fun _ => 0)), (q2, gArr K.2.1 10 (fun _ => 0))] := hD
  refine lv_aload_n hx hb dX3_init_20 rfl (lv_at hl 0 rfl) ?_
  refine lv_bipush (v := 10) hx hb dX3_init_21 (by decide) ?_
  refine g_newa (atype := .int) (ty := .int) (N' := 10) (a0 := (10, .inl (fun _ => 0))) hx hb (hts (.arrayClass .int) (by decide +kernel)) rfl hK hP hD hS hA 0 rfl (fun _ => rfl) (by decide) (by decide) (Nat.le_of_ble_eq_true rfl) (Nat.le_of_ble_eq_true rfl) (Nat.le_of_ble_eq_true rfl) dX3_init_23 (fun q3 H hP hD hS => ?_)
  have hP : va_P D vwCl [(h0, .inr (3, [.int 0, .ref q1, .ref q2, .null, .null, .null, .null, .null, .int 0, .int 0, .null, .null, .null, .null, .int 0, .int 0, .int 0, .null, .int 0, .null, .int 0])), (q1, gArr K.2.1 10 (fun _ => 0)), (q2, gArr K.2.1 10 (fun _ => 0)), (q3, gArr K.1 10 (fun _ => 0))] H := hP
  have hD : va_D A [(h0, .inr (3, [.int 0, .ref q1, .ref q2, .null, .null, .null, .null, .null, .int 0, .int 0, .null, .null, .null, .null, .int 0, .int 0, .int 0, .null, .int 0, .null, .int 0])), (q1, gArr K.2.1 10 (fun _ => 0)), (q2, gArr K.2.1 10 (fun _ => 0)), (q3, gArr K.1 10 (fun _ => 0))] := hD
  refine va_putF (C := RX3) (T := TX3) (N := 21) (ci := 3) (ty := .array .int) hx hb hts hi_X3 tyX3 tyX3_ok nmX3 hown hK hP hD hS (0) (rfl) rfl 3 (by decide) (hts (.fieldLink RX3 16 "GroupSeatsModel" "size" "[I") (by decide +kernel)) (fun _ h9 => h9) rfl hnm rfl (by decide +kernel) rfl rfl (Nat.le_of_ble_eq_true rfl) dX3_init_25 (fun H locs hP hD hS => ?_)
  have hP : va_P D vwCl [(h0, .inr (3, [.int 0, .ref q1, .ref q2, .ref q3, .null, .null, .null, .null, .int 0, .int 0, .null, .null, .null, .null, .int 0, .int 0, .int 0, .null, .int 0, .null, .int 0])), (q1, gArr K.2.1 10 (fun _ => 0)), (q2, gArr K.2.1 10 (fun _ => 0)), (q3, gArr K.1 10 (fun _ => 0))] H := hP
  have hD : va_D A [(h0, .inr (3, [.int 0, .ref q1, .ref q2, .ref q3, .null, .null, .null, .null, .int 0, .int 0, .null, .null, .null, .null, .int 0, .int 0, .int 0, .null, .int 0, .null, .int 0])), (q1, gArr K.2.1 10 (fun _ => 0)), (q2, gArr K.2.1 10 (fun _ => 0)), (q3, gArr K.1 10 (fun _ => 0))] := hD
  refine lv_aload_n hx hb dX3_init_28 rfl (lv_at hl 0 rfl) ?_
  refine lv_bipush (v := 10) hx hb dX3_init_29 (by decide) ?_
  refine g_newa (atype := .int) (ty := .int) (N' := 10) (a0 := (10, .inl (fun _ => 0))) hx hb (hts (.arrayClass .int) (by decide +kernel)) rfl hK hP hD hS hA 0 rfl (fun _ => rfl) (by decide) (by decide) (Nat.le_of_ble_eq_true rfl) (Nat.le_of_ble_eq_true rfl) (Nat.le_of_ble_eq_true rfl) dX3_init_31 (fun q4 H hP hD hS => ?_)
  have hP : va_P D vwCl [(h0, .inr (3, [.int 0, .ref q1, .ref q2, .ref q3, .null, .null, .null, .null, .int 0, .int 0, .null, .null, .null, .null, .int 0, .int 0, .int 0, .null, .int 0, .null, .int 0])), (q1, gArr K.2.1 10 (fun _ => 0)), (q2, gArr K.2.1 10 (fun _ => 0)), (q3, gArr K.1 10 (fun _ => 0)), (q4, gArr K.1 10 (fun _ => 0))] H := hP
  have hD : va_D A [(h0, .inr (3, [.int 0, .ref q1, .ref q2, .ref q3, .null, .null, .null, .null, .int 0, .int 0, .null, .null, .null, .null, .int 0, .int 0, .int 0, .null, .int 0, .null, .int 0])), (q1, gArr K.2.1 10 (fun _ => 0)), (q2, gArr K.2.1 10 (fun _ => 0)), (q3, gArr K.1 10 (fun _ => 0)), (q4, gArr K.1 10 (fun _ => 0))] := hD
  refine va_putF (C := RX3) (T := TX3) (N := 21) (ci := 3) (ty := .array .int) hx hb hts hi_X3 tyX3 tyX3_ok nmX3 hown hK hP hD hS (0) (rfl) rfl 4 (by decide) (hts (.fieldLink RX3 20 "GroupSeatsModel" "holds" "[I") (by decide +kernel)) (fun _ h9 => h9) rfl hnm rfl (by decide +kernel) rfl rfl (Nat.le_of_ble_eq_true rfl) dX3_init_33 (fun H locs hP hD hS => ?_)
  have hP : va_P D vwCl [(h0, .inr (3, [.int 0, .ref q1, .ref q2, .ref q3, .ref q4, .null, .null, .null, .int 0, .int 0, .null, .null, .null, .null, .int 0, .int 0, .int 0, .null, .int 0, .null, .int 0])), (q1, gArr K.2.1 10 (fun _ => 0)), (q2, gArr K.2.1 10 (fun _ => 0)), (q3, gArr K.1 10 (fun _ => 0)), (q4, gArr K.1 10 (fun _ => 0))] H := hP
  have hD : va_D A [(h0, .inr (3, [.int 0, .ref q1, .ref q2, .ref q3, .ref q4, .null, .null, .null, .int 0, .int 0, .null, .null, .null, .null, .int 0, .int 0, .int 0, .null, .int 0, .null, .int 0])), (q1, gArr K.2.1 10 (fun _ => 0)), (q2, gArr K.2.1 10 (fun _ => 0)), (q3, gArr K.1 10 (fun _ => 0)), (q4, gArr K.1 10 (fun _ => 0))] := hD
  refine lv_aload_n hx hb dX3_init_36 rfl (lv_at hl 0 rfl) ?_
  refine lv_bipush (v := 10) hx hb dX3_init_37 (by decide) ?_
  refine g_newa (atype := .int) (ty := .int) (N' := 10) (a0 := (10, .inl (fun _ => 0))) hx hb (hts (.arrayClass .int) (by decide +kernel)) rfl hK hP hD hS hA 0 rfl (fun _ => rfl) (by decide) (by decide) (Nat.le_of_ble_eq_true rfl) (Nat.le_of_ble_eq_true rfl) (Nat.le_of_ble_eq_true rfl) dX3_init_39 (fun q5 H hP hD hS => ?_)
  have hP : va_P D vwCl [(h0, .inr (3, [.int 0, .ref q1, .ref q2, .ref q3, .ref q4, .null, .null, .null, .int 0, .int 0, .null, .null, .null, .null, .int 0, .int 0, .int 0, .null, .int 0, .null, .int 0])), (q1, gArr K.2.1 10 (fun _ => 0)), (q2, gArr K.2.1 10 (fun _ => 0)), (q3, gArr K.1 10 (fun _ => 0)), (q4, gArr K.1 10 (fun _ => 0)), (q5, gArr K.1 10 (fun _ => 0))] H := hP
  have hD : va_D A [(h0, .inr (3, [.int 0, .ref q1, .ref q2, .ref q3, .ref q4, .null, .null, .null, .int 0, .int 0, .null, .null, .null, .null, .int 0, .int 0, .int 0, .null, .int 0, .null, .int 0])), (q1, gArr K.2.1 10 (fun _ => 0)), (q2, gArr K.2.1 10 (fun _ => 0)), (q3, gArr K.1 10 (fun _ => 0)), (q4, gArr K.1 10 (fun _ => 0)), (q5, gArr K.1 10 (fun _ => 0))] := hD
  refine va_putF (C := RX3) (T := TX3) (N := 21) (ci := 3) (ty := .array .int) hx hb hts hi_X3 tyX3 tyX3_ok nmX3 hown hK hP hD hS (0) (rfl) rfl 5 (by decide) (hts (.fieldLink RX3 23 "GroupSeatsModel" "back" "[I") (by decide +kernel)) (fun _ h9 => h9) rfl hnm rfl (by decide +kernel) rfl rfl (Nat.le_of_ble_eq_true rfl) dX3_init_41 (fun H locs hP hD hS => ?_)
  have hP : va_P D vwCl [(h0, .inr (3, [.int 0, .ref q1, .ref q2, .ref q3, .ref q4, .ref q5, .null, .null, .int 0, .int 0, .null, .null, .null, .null, .int 0, .int 0, .int 0, .null, .int 0, .null, .int 0])), (q1, gArr K.2.1 10 (fun _ => 0)), (q2, gArr K.2.1 10 (fun _ => 0)), (q3, gArr K.1 10 (fun _ => 0)), (q4, gArr K.1 10 (fun _ => 0)), (q5, gArr K.1 10 (fun _ => 0))] H := hP
  have hD : va_D A [(h0, .inr (3, [.int 0, .ref q1, .ref q2, .ref q3, .ref q4, .ref q5, .null, .null, .int 0, .int 0, .null, .null, .null, .null, .int 0, .int 0, .int 0, .null, .int 0, .null, .int 0])), (q1, gArr K.2.1 10 (fun _ => 0)), (q2, gArr K.2.1 10 (fun _ => 0)), (q3, gArr K.1 10 (fun _ => 0)), (q4, gArr K.1 10 (fun _ => 0)), (q5, gArr K.1 10 (fun _ => 0))] := hD
  refine lv_aload_n hx hb dX3_init_44 rfl (lv_at hl 0 rfl) ?_
  refine lv_sipush (v := 200) hx hb dX3_init_45 (by decide) ?_
  refine g_newa (atype := .int) (ty := .int) (N' := 200) (a0 := (200, .inl (fun _ => 0))) hx hb (hts (.arrayClass .int) (by decide +kernel)) rfl hK hP hD hS hA 0 rfl (fun _ => rfl) (by decide) (by decide) (Nat.le_of_ble_eq_true rfl) (Nat.le_of_ble_eq_true rfl) (Nat.le_of_ble_eq_true rfl) dX3_init_48 (fun q6 H hP hD hS => ?_)
  have hP : va_P D vwCl [(h0, .inr (3, [.int 0, .ref q1, .ref q2, .ref q3, .ref q4, .ref q5, .null, .null, .int 0, .int 0, .null, .null, .null, .null, .int 0, .int 0, .int 0, .null, .int 0, .null, .int 0])), (q1, gArr K.2.1 10 (fun _ => 0)), (q2, gArr K.2.1 10 (fun _ => 0)), (q3, gArr K.1 10 (fun _ => 0)), (q4, gArr K.1 10 (fun _ => 0)), (q5, gArr K.1 10 (fun _ => 0)), (q6, gArr K.1 200 (fun _ => 0))] H := hP
  have hD : va_D A [(h0, .inr (3, [.int 0, .ref q1, .ref q2, .ref q3, .ref q4, .ref q5, .null, .null, .int 0, .int 0, .null, .null, .null, .null, .int 0, .int 0, .int 0, .null, .int 0, .null, .int 0])), (q1, gArr K.2.1 10 (fun _ => 0)), (q2, gArr K.2.1 10 (fun _ => 0)), (q3, gArr K.1 10 (fun _ => 0)), (q4, gArr K.1 10 (fun _ => 0)), (q5, gArr K.1 10 (fun _ => 0)), (q6, gArr K.1 200 (fun _ => 0))] := hD
  refine va_putF (C := RX3) (T := TX3) (N := 21) (ci := 3) (ty := .array .int) hx hb hts hi_X3 tyX3 tyX3_ok nmX3 hown hK hP hD hS (0) (rfl) rfl 6 (by decide) (hts (.fieldLink RX3 26 "GroupSeatsModel" "seats" "[I") (by decide +kernel)) (fun _ h9 => h9) rfl hnm rfl (by decide +kernel) rfl rfl (Nat.le_of_ble_eq_true rfl) dX3_init_50 (fun H locs hP hD hS => ?_)
  have hP : va_P D vwCl [(h0, .inr (3, [.int 0, .ref q1, .ref q2, .ref q3, .ref q4, .ref q5, .ref q6, .null, .int 0, .int 0, .null, .null, .null, .null, .int 0, .int 0, .int 0, .null, .int 0, .null, .int 0])), (q1, gArr K.2.1 10 (fun _ => 0)), (q2, gArr K.2.1 10 (fun _ => 0)), (q3, gArr K.1 10 (fun _ => 0)), (q4, gArr K.1 10 (fun _ => 0)), (q5, gArr K.1 10 (fun _ => 0)), (q6, gArr K.1 200 (fun _ => 0))] H := hP
  have hD : va_D A [(h0, .inr (3, [.int 0, .ref q1, .ref q2, .ref q3, .ref q4, .ref q5, .ref q6, .null, .int 0, .int 0, .null, .null, .null, .null, .int 0, .int 0, .int 0, .null, .int 0, .null, .int 0])), (q1, gArr K.2.1 10 (fun _ => 0)), (q2, gArr K.2.1 10 (fun _ => 0)), (q3, gArr K.1 10 (fun _ => 0)), (q4, gArr K.1 10 (fun _ => 0)), (q5, gArr K.1 10 (fun _ => 0)), (q6, gArr K.1 200 (fun _ => 0))] := hD
  refine lv_aload_n hx hb dX3_init_53 rfl (lv_at hl 0 rfl) ?_
  refine lv_bipush (v := 6) hx hb dX3_init_54 (by decide) ?_
  refine g_newa (atype := .int) (ty := .int) (N' := 6) (a0 := (6, .inl (fun _ => 0))) hx hb (hts (.arrayClass .int) (by decide +kernel)) rfl hK hP hD hS hA 0 rfl (fun _ => rfl) (by decide) (by decide) (Nat.le_of_ble_eq_true rfl) (Nat.le_of_ble_eq_true rfl) (Nat.le_of_ble_eq_true rfl) dX3_init_56 (fun q7 H hP hD hS => ?_)
  have hP : va_P D vwCl [(h0, .inr (3, [.int 0, .ref q1, .ref q2, .ref q3, .ref q4, .ref q5, .ref q6, .null, .int 0, .int 0, .null, .null, .null, .null, .int 0, .int 0, .int 0, .null, .int 0, .null, .int 0])), (q1, gArr K.2.1 10 (fun _ => 0)), (q2, gArr K.2.1 10 (fun _ => 0)), (q3, gArr K.1 10 (fun _ => 0)), (q4, gArr K.1 10 (fun _ => 0)), (q5, gArr K.1 10 (fun _ => 0)), (q6, gArr K.1 200 (fun _ => 0)), (q7, gArr K.1 6 (fun _ => 0))] H := hP
  have hD : va_D A [(h0, .inr (3, [.int 0, .ref q1, .ref q2, .ref q3, .ref q4, .ref q5, .ref q6, .null, .int 0, .int 0, .null, .null, .null, .null, .int 0, .int 0, .int 0, .null, .int 0, .null, .int 0])), (q1, gArr K.2.1 10 (fun _ => 0)), (q2, gArr K.2.1 10 (fun _ => 0)), (q3, gArr K.1 10 (fun _ => 0)), (q4, gArr K.1 10 (fun _ => 0)), (q5, gArr K.1 10 (fun _ => 0)), (q6, gArr K.1 200 (fun _ => 0)), (q7, gArr K.1 6 (fun _ => 0))] := hD
  refine va_putF (C := RX3) (T := TX3) (N := 21) (ci := 3) (ty := .array .int) hx hb hts hi_X3 tyX3 tyX3_ok nmX3 hown hK hP hD hS (0) (rfl) rfl 7 (by decide) (hts (.fieldLink RX3 29 "GroupSeatsModel" "list" "[I") (by decide +kernel)) (fun _ h9 => h9) rfl hnm rfl (by decide +kernel) rfl rfl (Nat.le_of_ble_eq_true rfl) dX3_init_58 (fun H locs hP hD hS => ?_)
  have hP : va_P D vwCl [(h0, .inr (3, [.int 0, .ref q1, .ref q2, .ref q3, .ref q4, .ref q5, .ref q6, .ref q7, .int 0, .int 0, .null, .null, .null, .null, .int 0, .int 0, .int 0, .null, .int 0, .null, .int 0])), (q1, gArr K.2.1 10 (fun _ => 0)), (q2, gArr K.2.1 10 (fun _ => 0)), (q3, gArr K.1 10 (fun _ => 0)), (q4, gArr K.1 10 (fun _ => 0)), (q5, gArr K.1 10 (fun _ => 0)), (q6, gArr K.1 200 (fun _ => 0)), (q7, gArr K.1 6 (fun _ => 0))] H := hP
  have hD : va_D A [(h0, .inr (3, [.int 0, .ref q1, .ref q2, .ref q3, .ref q4, .ref q5, .ref q6, .ref q7, .int 0, .int 0, .null, .null, .null, .null, .int 0, .int 0, .int 0, .null, .int 0, .null, .int 0])), (q1, gArr K.2.1 10 (fun _ => 0)), (q2, gArr K.2.1 10 (fun _ => 0)), (q3, gArr K.1 10 (fun _ => 0)), (q4, gArr K.1 10 (fun _ => 0)), (q5, gArr K.1 10 (fun _ => 0)), (q6, gArr K.1 200 (fun _ => 0)), (q7, gArr K.1 6 (fun _ => 0))] := hD
  refine lv_aload_n hx hb dX3_init_61 rfl (lv_at hl 0 rfl) ?_
  refine lv_bipush (v := 40) hx hb dX3_init_62 (by decide) ?_
  refine g_newa (atype := .boolean) (ty := .boolean) (N' := 40) (a0 := (40, .inl (fun _ => 0))) hx hb (hts (.arrayClass .boolean) (by decide +kernel)) rfl hK hP hD hS hA 1 rfl (fun _ => rfl) (by decide) (by decide) (Nat.le_of_ble_eq_true rfl) (Nat.le_of_ble_eq_true rfl) (Nat.le_of_ble_eq_true rfl) dX3_init_64 (fun q8 H hP hD hS => ?_)
  have hP : va_P D vwCl [(h0, .inr (3, [.int 0, .ref q1, .ref q2, .ref q3, .ref q4, .ref q5, .ref q6, .ref q7, .int 0, .int 0, .null, .null, .null, .null, .int 0, .int 0, .int 0, .null, .int 0, .null, .int 0])), (q1, gArr K.2.1 10 (fun _ => 0)), (q2, gArr K.2.1 10 (fun _ => 0)), (q3, gArr K.1 10 (fun _ => 0)), (q4, gArr K.1 10 (fun _ => 0)), (q5, gArr K.1 10 (fun _ => 0)), (q6, gArr K.1 200 (fun _ => 0)), (q7, gArr K.1 6 (fun _ => 0)), (q8, gArr K.2.1 40 (fun _ => 0))] H := hP
  have hD : va_D A [(h0, .inr (3, [.int 0, .ref q1, .ref q2, .ref q3, .ref q4, .ref q5, .ref q6, .ref q7, .int 0, .int 0, .null, .null, .null, .null, .int 0, .int 0, .int 0, .null, .int 0, .null, .int 0])), (q1, gArr K.2.1 10 (fun _ => 0)), (q2, gArr K.2.1 10 (fun _ => 0)), (q3, gArr K.1 10 (fun _ => 0)), (q4, gArr K.1 10 (fun _ => 0)), (q5, gArr K.1 10 (fun _ => 0)), (q6, gArr K.1 200 (fun _ => 0)), (q7, gArr K.1 6 (fun _ => 0)), (q8, gArr K.2.1 40 (fun _ => 0))] := hD
  refine va_putF (C := RX3) (T := TX3) (N := 21) (ci := 3) (ty := .array .boolean) hx hb hts hi_X3 tyX3 tyX3_ok nmX3 hown hK hP hD hS (0) (rfl) rfl 10 (by decide) (hts (.fieldLink RX3 32 "GroupSeatsModel" "isCancelled" "[Z") (by decide +kernel)) (fun _ h9 => h9) rfl hnm rfl (by decide +kernel) rfl rfl (Nat.le_of_ble_eq_true rfl) dX3_init_66 (fun H locs hP hD hS => ?_)
  have hP : va_P D vwCl [(h0, .inr (3, [.int 0, .ref q1, .ref q2, .ref q3, .ref q4, .ref q5, .ref q6, .ref q7, .int 0, .int 0, .ref q8, .null, .null, .null, .int 0, .int 0, .int 0, .null, .int 0, .null, .int 0])), (q1, gArr K.2.1 10 (fun _ => 0)), (q2, gArr K.2.1 10 (fun _ => 0)), (q3, gArr K.1 10 (fun _ => 0)), (q4, gArr K.1 10 (fun _ => 0)), (q5, gArr K.1 10 (fun _ => 0)), (q6, gArr K.1 200 (fun _ => 0)), (q7, gArr K.1 6 (fun _ => 0)), (q8, gArr K.2.1 40 (fun _ => 0))] H := hP
  have hD : va_D A [(h0, .inr (3, [.int 0, .ref q1, .ref q2, .ref q3, .ref q4, .ref q5, .ref q6, .ref q7, .int 0, .int 0, .ref q8, .null, .null, .null, .int 0, .int 0, .int 0, .null, .int 0, .null, .int 0])), (q1, gArr K.2.1 10 (fun _ => 0)), (q2, gArr K.2.1 10 (fun _ => 0)), (q3, gArr K.1 10 (fun _ => 0)), (q4, gArr K.1 10 (fun _ => 0)), (q5, gArr K.1 10 (fun _ => 0)), (q6, gArr K.1 200 (fun _ => 0)), (q7, gArr K.1 6 (fun _ => 0)), (q8, gArr K.2.1 40 (fun _ => 0))] := hD
  refine lv_aload_n hx hb dX3_init_69 rfl (lv_at hl 0 rfl) ?_
  refine lv_bipush (v := 8) hx hb dX3_init_70 (by decide) ?_
  refine g_newa (atype := .int) (ty := .int) (N' := 8) (a0 := (8, .inl (fun _ => 0))) hx hb (hts (.arrayClass .int) (by decide +kernel)) rfl hK hP hD hS hA 0 rfl (fun _ => rfl) (by decide) (by decide) (Nat.le_of_ble_eq_true rfl) (Nat.le_of_ble_eq_true rfl) (Nat.le_of_ble_eq_true rfl) dX3_init_72 (fun q9 H hP hD hS => ?_)
  have hP : va_P D vwCl [(h0, .inr (3, [.int 0, .ref q1, .ref q2, .ref q3, .ref q4, .ref q5, .ref q6, .ref q7, .int 0, .int 0, .ref q8, .null, .null, .null, .int 0, .int 0, .int 0, .null, .int 0, .null, .int 0])), (q1, gArr K.2.1 10 (fun _ => 0)), (q2, gArr K.2.1 10 (fun _ => 0)), (q3, gArr K.1 10 (fun _ => 0)), (q4, gArr K.1 10 (fun _ => 0)), (q5, gArr K.1 10 (fun _ => 0)), (q6, gArr K.1 200 (fun _ => 0)), (q7, gArr K.1 6 (fun _ => 0)), (q8, gArr K.2.1 40 (fun _ => 0)), (q9, gArr K.1 8 (fun _ => 0))] H := hP
  have hD : va_D A [(h0, .inr (3, [.int 0, .ref q1, .ref q2, .ref q3, .ref q4, .ref q5, .ref q6, .ref q7, .int 0, .int 0, .ref q8, .null, .null, .null, .int 0, .int 0, .int 0, .null, .int 0, .null, .int 0])), (q1, gArr K.2.1 10 (fun _ => 0)), (q2, gArr K.2.1 10 (fun _ => 0)), (q3, gArr K.1 10 (fun _ => 0)), (q4, gArr K.1 10 (fun _ => 0)), (q5, gArr K.1 10 (fun _ => 0)), (q6, gArr K.1 200 (fun _ => 0)), (q7, gArr K.1 6 (fun _ => 0)), (q8, gArr K.2.1 40 (fun _ => 0)), (q9, gArr K.1 8 (fun _ => 0))] := hD
  refine va_putF (C := RX3) (T := TX3) (N := 21) (ci := 3) (ty := .array .int) hx hb hts hi_X3 tyX3 tyX3_ok nmX3 hown hK hP hD hS (0) (rfl) rfl 11 (by decide) (hts (.fieldLink RX3 35 "GroupSeatsModel" "people" "[I") (by decide +kernel)) (fun _ h9 => h9) rfl hnm rfl (by decide +kernel) rfl rfl (Nat.le_of_ble_eq_true rfl) dX3_init_74 (fun H locs hP hD hS => ?_)
  have hP : va_P D vwCl [(h0, .inr (3, [.int 0, .ref q1, .ref q2, .ref q3, .ref q4, .ref q5, .ref q6, .ref q7, .int 0, .int 0, .ref q8, .ref q9, .null, .null, .int 0, .int 0, .int 0, .null, .int 0, .null, .int 0])), (q1, gArr K.2.1 10 (fun _ => 0)), (q2, gArr K.2.1 10 (fun _ => 0)), (q3, gArr K.1 10 (fun _ => 0)), (q4, gArr K.1 10 (fun _ => 0)), (q5, gArr K.1 10 (fun _ => 0)), (q6, gArr K.1 200 (fun _ => 0)), (q7, gArr K.1 6 (fun _ => 0)), (q8, gArr K.2.1 40 (fun _ => 0)), (q9, gArr K.1 8 (fun _ => 0))] H := hP
  have hD : va_D A [(h0, .inr (3, [.int 0, .ref q1, .ref q2, .ref q3, .ref q4, .ref q5, .ref q6, .ref q7, .int 0, .int 0, .ref q8, .ref q9, .null, .null, .int 0, .int 0, .int 0, .null, .int 0, .null, .int 0])), (q1, gArr K.2.1 10 (fun _ => 0)), (q2, gArr K.2.1 10 (fun _ => 0)), (q3, gArr K.1 10 (fun _ => 0)), (q4, gArr K.1 10 (fun _ => 0)), (q5, gArr K.1 10 (fun _ => 0)), (q6, gArr K.1 200 (fun _ => 0)), (q7, gArr K.1 6 (fun _ => 0)), (q8, gArr K.2.1 40 (fun _ => 0)), (q9, gArr K.1 8 (fun _ => 0))] := hD
  refine lv_aload_n hx hb dX3_init_77 rfl (lv_at hl 0 rfl) ?_
  refine lv_bipush (v := 48) hx hb dX3_init_78 (by decide) ?_
  refine g_newa (atype := .int) (ty := .int) (N' := 48) (a0 := (48, .inl (fun _ => 0))) hx hb (hts (.arrayClass .int) (by decide +kernel)) rfl hK hP hD hS hA 0 rfl (fun _ => rfl) (by decide) (by decide) (Nat.le_of_ble_eq_true rfl) (Nat.le_of_ble_eq_true rfl) (Nat.le_of_ble_eq_true rfl) dX3_init_80 (fun q10 H hP hD hS => ?_)
  have hP : va_P D vwCl [(h0, .inr (3, [.int 0, .ref q1, .ref q2, .ref q3, .ref q4, .ref q5, .ref q6, .ref q7, .int 0, .int 0, .ref q8, .ref q9, .null, .null, .int 0, .int 0, .int 0, .null, .int 0, .null, .int 0])), (q1, gArr K.2.1 10 (fun _ => 0)), (q2, gArr K.2.1 10 (fun _ => 0)), (q3, gArr K.1 10 (fun _ => 0)), (q4, gArr K.1 10 (fun _ => 0)), (q5, gArr K.1 10 (fun _ => 0)), (q6, gArr K.1 200 (fun _ => 0)), (q7, gArr K.1 6 (fun _ => 0)), (q8, gArr K.2.1 40 (fun _ => 0)), (q9, gArr K.1 8 (fun _ => 0)), (q10, gArr K.1 48 (fun _ => 0))] H := hP
  have hD : va_D A [(h0, .inr (3, [.int 0, .ref q1, .ref q2, .ref q3, .ref q4, .ref q5, .ref q6, .ref q7, .int 0, .int 0, .ref q8, .ref q9, .null, .null, .int 0, .int 0, .int 0, .null, .int 0, .null, .int 0])), (q1, gArr K.2.1 10 (fun _ => 0)), (q2, gArr K.2.1 10 (fun _ => 0)), (q3, gArr K.1 10 (fun _ => 0)), (q4, gArr K.1 10 (fun _ => 0)), (q5, gArr K.1 10 (fun _ => 0)), (q6, gArr K.1 200 (fun _ => 0)), (q7, gArr K.1 6 (fun _ => 0)), (q8, gArr K.2.1 40 (fun _ => 0)), (q9, gArr K.1 8 (fun _ => 0)), (q10, gArr K.1 48 (fun _ => 0))] := hD
  refine va_putF (C := RX3) (T := TX3) (N := 21) (ci := 3) (ty := .array .int) hx hb hts hi_X3 tyX3 tyX3_ok nmX3 hown hK hP hD hS (0) (rfl) rfl 12 (by decide) (hts (.fieldLink RX3 38 "GroupSeatsModel" "lists" "[I") (by decide +kernel)) (fun _ h9 => h9) rfl hnm rfl (by decide +kernel) rfl rfl (Nat.le_of_ble_eq_true rfl) dX3_init_82 (fun H locs hP hD hS => ?_)
  have hP : va_P D vwCl [(h0, .inr (3, [.int 0, .ref q1, .ref q2, .ref q3, .ref q4, .ref q5, .ref q6, .ref q7, .int 0, .int 0, .ref q8, .ref q9, .ref q10, .null, .int 0, .int 0, .int 0, .null, .int 0, .null, .int 0])), (q1, gArr K.2.1 10 (fun _ => 0)), (q2, gArr K.2.1 10 (fun _ => 0)), (q3, gArr K.1 10 (fun _ => 0)), (q4, gArr K.1 10 (fun _ => 0)), (q5, gArr K.1 10 (fun _ => 0)), (q6, gArr K.1 200 (fun _ => 0)), (q7, gArr K.1 6 (fun _ => 0)), (q8, gArr K.2.1 40 (fun _ => 0)), (q9, gArr K.1 8 (fun _ => 0)), (q10, gArr K.1 48 (fun _ => 0))] H := hP
  have hD : va_D A [(h0, .inr (3, [.int 0, .ref q1, .ref q2, .ref q3, .ref q4, .ref q5, .ref q6, .ref q7, .int 0, .int 0, .ref q8, .ref q9, .ref q10, .null, .int 0, .int 0, .int 0, .null, .int 0, .null, .int 0])), (q1, gArr K.2.1 10 (fun _ => 0)), (q2, gArr K.2.1 10 (fun _ => 0)), (q3, gArr K.1 10 (fun _ => 0)), (q4, gArr K.1 10 (fun _ => 0)), (q5, gArr K.1 10 (fun _ => 0)), (q6, gArr K.1 200 (fun _ => 0)), (q7, gArr K.1 6 (fun _ => 0)), (q8, gArr K.2.1 40 (fun _ => 0)), (q9, gArr K.1 8 (fun _ => 0)), (q10, gArr K.1 48 (fun _ => 0))] := hD
  refine lv_aload_n hx hb dX3_init_85 rfl (lv_at hl 0 rfl) ?_
  refine lv_bipush (v := 8) hx hb dX3_init_86 (by decide) ?_
  refine g_newa (atype := .int) (ty := .int) (N' := 8) (a0 := (8, .inl (fun _ => 0))) hx hb (hts (.arrayClass .int) (by decide +kernel)) rfl hK hP hD hS hA 0 rfl (fun _ => rfl) (by decide) (by decide) (Nat.le_of_ble_eq_true rfl) (Nat.le_of_ble_eq_true rfl) (Nat.le_of_ble_eq_true rfl) dX3_init_88 (fun q11 H hP hD hS => ?_)
  have hP : va_P D vwCl [(h0, .inr (3, [.int 0, .ref q1, .ref q2, .ref q3, .ref q4, .ref q5, .ref q6, .ref q7, .int 0, .int 0, .ref q8, .ref q9, .ref q10, .null, .int 0, .int 0, .int 0, .null, .int 0, .null, .int 0])), (q1, gArr K.2.1 10 (fun _ => 0)), (q2, gArr K.2.1 10 (fun _ => 0)), (q3, gArr K.1 10 (fun _ => 0)), (q4, gArr K.1 10 (fun _ => 0)), (q5, gArr K.1 10 (fun _ => 0)), (q6, gArr K.1 200 (fun _ => 0)), (q7, gArr K.1 6 (fun _ => 0)), (q8, gArr K.2.1 40 (fun _ => 0)), (q9, gArr K.1 8 (fun _ => 0)), (q10, gArr K.1 48 (fun _ => 0)), (q11, gArr K.1 8 (fun _ => 0))] H := hP
  have hD : va_D A [(h0, .inr (3, [.int 0, .ref q1, .ref q2, .ref q3, .ref q4, .ref q5, .ref q6, .ref q7, .int 0, .int 0, .ref q8, .ref q9, .ref q10, .null, .int 0, .int 0, .int 0, .null, .int 0, .null, .int 0])), (q1, gArr K.2.1 10 (fun _ => 0)), (q2, gArr K.2.1 10 (fun _ => 0)), (q3, gArr K.1 10 (fun _ => 0)), (q4, gArr K.1 10 (fun _ => 0)), (q5, gArr K.1 10 (fun _ => 0)), (q6, gArr K.1 200 (fun _ => 0)), (q7, gArr K.1 6 (fun _ => 0)), (q8, gArr K.2.1 40 (fun _ => 0)), (q9, gArr K.1 8 (fun _ => 0)), (q10, gArr K.1 48 (fun _ => 0)), (q11, gArr K.1 8 (fun _ => 0))] := hD
  refine va_putF (C := RX3) (T := TX3) (N := 21) (ci := 3) (ty := .array .int) hx hb hts hi_X3 tyX3 tyX3_ok nmX3 hown hK hP hD hS (0) (rfl) rfl 13 (by decide) (hts (.fieldLink RX3 41 "GroupSeatsModel" "lengths" "[I") (by decide +kernel)) (fun _ h9 => h9) rfl hnm rfl (by decide +kernel) rfl rfl (Nat.le_of_ble_eq_true rfl) dX3_init_90 (fun H locs hP hD hS => ?_)
  have hP : va_P D vwCl [(h0, .inr (3, [.int 0, .ref q1, .ref q2, .ref q3, .ref q4, .ref q5, .ref q6, .ref q7, .int 0, .int 0, .ref q8, .ref q9, .ref q10, .ref q11, .int 0, .int 0, .int 0, .null, .int 0, .null, .int 0])), (q1, gArr K.2.1 10 (fun _ => 0)), (q2, gArr K.2.1 10 (fun _ => 0)), (q3, gArr K.1 10 (fun _ => 0)), (q4, gArr K.1 10 (fun _ => 0)), (q5, gArr K.1 10 (fun _ => 0)), (q6, gArr K.1 200 (fun _ => 0)), (q7, gArr K.1 6 (fun _ => 0)), (q8, gArr K.2.1 40 (fun _ => 0)), (q9, gArr K.1 8 (fun _ => 0)), (q10, gArr K.1 48 (fun _ => 0)), (q11, gArr K.1 8 (fun _ => 0))] H := hP
  have hD : va_D A [(h0, .inr (3, [.int 0, .ref q1, .ref q2, .ref q3, .ref q4, .ref q5, .ref q6, .ref q7, .int 0, .int 0, .ref q8, .ref q9, .ref q10, .ref q11, .int 0, .int 0, .int 0, .null, .int 0, .null, .int 0])), (q1, gArr K.2.1 10 (fun _ => 0)), (q2, gArr K.2.1 10 (fun _ => 0)), (q3, gArr K.1 10 (fun _ => 0)), (q4, gArr K.1 10 (fun _ => 0)), (q5, gArr K.1 10 (fun _ => 0)), (q6, gArr K.1 200 (fun _ => 0)), (q7, gArr K.1 6 (fun _ => 0)), (q8, gArr K.2.1 40 (fun _ => 0)), (q9, gArr K.1 8 (fun _ => 0)), (q10, gArr K.1 48 (fun _ => 0)), (q11, gArr K.1 8 (fun _ => 0))] := hD
  refine lv_aload_n hx hb dX3_init_93 rfl (lv_at hl 0 rfl) ?_
  refine lv_bipush (v := 6) hx hb dX3_init_94 (by decide) ?_
  refine g_newa (atype := .int) (ty := .int) (N' := 6) (a0 := (6, .inl (fun _ => 0))) hx hb (hts (.arrayClass .int) (by decide +kernel)) rfl hK hP hD hS hA 0 rfl (fun _ => rfl) (by decide) (by decide) (Nat.le_of_ble_eq_true rfl) (Nat.le_of_ble_eq_true rfl) (Nat.le_of_ble_eq_true rfl) dX3_init_96 (fun q12 H hP hD hS => ?_)
  have hP : va_P D vwCl [(h0, .inr (3, [.int 0, .ref q1, .ref q2, .ref q3, .ref q4, .ref q5, .ref q6, .ref q7, .int 0, .int 0, .ref q8, .ref q9, .ref q10, .ref q11, .int 0, .int 0, .int 0, .null, .int 0, .null, .int 0])), (q1, gArr K.2.1 10 (fun _ => 0)), (q2, gArr K.2.1 10 (fun _ => 0)), (q3, gArr K.1 10 (fun _ => 0)), (q4, gArr K.1 10 (fun _ => 0)), (q5, gArr K.1 10 (fun _ => 0)), (q6, gArr K.1 200 (fun _ => 0)), (q7, gArr K.1 6 (fun _ => 0)), (q8, gArr K.2.1 40 (fun _ => 0)), (q9, gArr K.1 8 (fun _ => 0)), (q10, gArr K.1 48 (fun _ => 0)), (q11, gArr K.1 8 (fun _ => 0)), (q12, gArr K.1 6 (fun _ => 0))] H := hP
  have hD : va_D A [(h0, .inr (3, [.int 0, .ref q1, .ref q2, .ref q3, .ref q4, .ref q5, .ref q6, .ref q7, .int 0, .int 0, .ref q8, .ref q9, .ref q10, .ref q11, .int 0, .int 0, .int 0, .null, .int 0, .null, .int 0])), (q1, gArr K.2.1 10 (fun _ => 0)), (q2, gArr K.2.1 10 (fun _ => 0)), (q3, gArr K.1 10 (fun _ => 0)), (q4, gArr K.1 10 (fun _ => 0)), (q5, gArr K.1 10 (fun _ => 0)), (q6, gArr K.1 200 (fun _ => 0)), (q7, gArr K.1 6 (fun _ => 0)), (q8, gArr K.2.1 40 (fun _ => 0)), (q9, gArr K.1 8 (fun _ => 0)), (q10, gArr K.1 48 (fun _ => 0)), (q11, gArr K.1 8 (fun _ => 0)), (q12, gArr K.1 6 (fun _ => 0))] := hD
  refine va_putF (C := RX3) (T := TX3) (N := 21) (ci := 3) (ty := .array .int) hx hb hts hi_X3 tyX3 tyX3_ok nmX3 hown hK hP hD hS (0) (rfl) rfl 17 (by decide) (hts (.fieldLink RX3 44 "GroupSeatsModel" "way" "[I") (by decide +kernel)) (fun _ h9 => h9) rfl hnm rfl (by decide +kernel) rfl rfl (Nat.le_of_ble_eq_true rfl) dX3_init_98 (fun H locs hP hD hS => ?_)
  have hP : va_P D vwCl [(h0, .inr (3, [.int 0, .ref q1, .ref q2, .ref q3, .ref q4, .ref q5, .ref q6, .ref q7, .int 0, .int 0, .ref q8, .ref q9, .ref q10, .ref q11, .int 0, .int 0, .int 0, .ref q12, .int 0, .null, .int 0])), (q1, gArr K.2.1 10 (fun _ => 0)), (q2, gArr K.2.1 10 (fun _ => 0)), (q3, gArr K.1 10 (fun _ => 0)), (q4, gArr K.1 10 (fun _ => 0)), (q5, gArr K.1 10 (fun _ => 0)), (q6, gArr K.1 200 (fun _ => 0)), (q7, gArr K.1 6 (fun _ => 0)), (q8, gArr K.2.1 40 (fun _ => 0)), (q9, gArr K.1 8 (fun _ => 0)), (q10, gArr K.1 48 (fun _ => 0)), (q11, gArr K.1 8 (fun _ => 0)), (q12, gArr K.1 6 (fun _ => 0))] H := hP
  have hD : va_D A [(h0, .inr (3, [.int 0, .ref q1, .ref q2, .ref q3, .ref q4, .ref q5, .ref q6, .ref q7, .int 0, .int 0, .ref q8, .ref q9, .ref q10, .ref q11, .int 0, .int 0, .int 0, .ref q12, .int 0, .null, .int 0])), (q1, gArr K.2.1 10 (fun _ => 0)), (q2, gArr K.2.1 10 (fun _ => 0)), (q3, gArr K.1 10 (fun _ => 0)), (q4, gArr K.1 10 (fun _ => 0)), (q5, gArr K.1 10 (fun _ => 0)), (q6, gArr K.1 200 (fun _ => 0)), (q7, gArr K.1 6 (fun _ => 0)), (q8, gArr K.2.1 40 (fun _ => 0)), (q9, gArr K.1 8 (fun _ => 0)), (q10, gArr K.1 48 (fun _ => 0)), (q11, gArr K.1 8 (fun _ => 0)), (q12, gArr K.1 6 (fun _ => 0))] := hD
  refine lv_aload_n hx hb dX3_init_101 rfl (lv_at hl 0 rfl) ?_
  refine lv_bipush (v := 6) hx hb dX3_init_102 (by decide) ?_
  refine g_newa (atype := .int) (ty := .int) (N' := 6) (a0 := (6, .inl (fun _ => 0))) hx hb (hts (.arrayClass .int) (by decide +kernel)) rfl hK hP hD hS hA 0 rfl (fun _ => rfl) (by decide) (by decide) (Nat.le_of_ble_eq_true rfl) (Nat.le_of_ble_eq_true rfl) (Nat.le_of_ble_eq_true rfl) dX3_init_104 (fun q13 H hP hD hS => ?_)
  have hP : va_P D vwCl [(h0, .inr (3, [.int 0, .ref q1, .ref q2, .ref q3, .ref q4, .ref q5, .ref q6, .ref q7, .int 0, .int 0, .ref q8, .ref q9, .ref q10, .ref q11, .int 0, .int 0, .int 0, .ref q12, .int 0, .null, .int 0])), (q1, gArr K.2.1 10 (fun _ => 0)), (q2, gArr K.2.1 10 (fun _ => 0)), (q3, gArr K.1 10 (fun _ => 0)), (q4, gArr K.1 10 (fun _ => 0)), (q5, gArr K.1 10 (fun _ => 0)), (q6, gArr K.1 200 (fun _ => 0)), (q7, gArr K.1 6 (fun _ => 0)), (q8, gArr K.2.1 40 (fun _ => 0)), (q9, gArr K.1 8 (fun _ => 0)), (q10, gArr K.1 48 (fun _ => 0)), (q11, gArr K.1 8 (fun _ => 0)), (q12, gArr K.1 6 (fun _ => 0)), (q13, gArr K.1 6 (fun _ => 0))] H := hP
  have hD : va_D A [(h0, .inr (3, [.int 0, .ref q1, .ref q2, .ref q3, .ref q4, .ref q5, .ref q6, .ref q7, .int 0, .int 0, .ref q8, .ref q9, .ref q10, .ref q11, .int 0, .int 0, .int 0, .ref q12, .int 0, .null, .int 0])), (q1, gArr K.2.1 10 (fun _ => 0)), (q2, gArr K.2.1 10 (fun _ => 0)), (q3, gArr K.1 10 (fun _ => 0)), (q4, gArr K.1 10 (fun _ => 0)), (q5, gArr K.1 10 (fun _ => 0)), (q6, gArr K.1 200 (fun _ => 0)), (q7, gArr K.1 6 (fun _ => 0)), (q8, gArr K.2.1 40 (fun _ => 0)), (q9, gArr K.1 8 (fun _ => 0)), (q10, gArr K.1 48 (fun _ => 0)), (q11, gArr K.1 8 (fun _ => 0)), (q12, gArr K.1 6 (fun _ => 0)), (q13, gArr K.1 6 (fun _ => 0))] := hD
  refine va_putF (C := RX3) (T := TX3) (N := 21) (ci := 3) (ty := .array .int) hx hb hts hi_X3 tyX3 tyX3_ok nmX3 hown hK hP hD hS (0) (rfl) rfl 19 (by decide) (hts (.fieldLink RX3 47 "GroupSeatsModel" "taken" "[I") (by decide +kernel)) (fun _ h9 => h9) rfl hnm rfl (by decide +kernel) rfl rfl (Nat.le_of_ble_eq_true rfl) dX3_init_106 (fun H locs hP hD hS => ?_)
  have hP : va_P D vwCl [(h0, .inr (3, [.int 0, .ref q1, .ref q2, .ref q3, .ref q4, .ref q5, .ref q6, .ref q7, .int 0, .int 0, .ref q8, .ref q9, .ref q10, .ref q11, .int 0, .int 0, .int 0, .ref q12, .int 0, .ref q13, .int 0])), (q1, gArr K.2.1 10 (fun _ => 0)), (q2, gArr K.2.1 10 (fun _ => 0)), (q3, gArr K.1 10 (fun _ => 0)), (q4, gArr K.1 10 (fun _ => 0)), (q5, gArr K.1 10 (fun _ => 0)), (q6, gArr K.1 200 (fun _ => 0)), (q7, gArr K.1 6 (fun _ => 0)), (q8, gArr K.2.1 40 (fun _ => 0)), (q9, gArr K.1 8 (fun _ => 0)), (q10, gArr K.1 48 (fun _ => 0)), (q11, gArr K.1 8 (fun _ => 0)), (q12, gArr K.1 6 (fun _ => 0)), (q13, gArr K.1 6 (fun _ => 0))] H := hP
  have hD : va_D A [(h0, .inr (3, [.int 0, .ref q1, .ref q2, .ref q3, .ref q4, .ref q5, .ref q6, .ref q7, .int 0, .int 0, .ref q8, .ref q9, .ref q10, .ref q11, .int 0, .int 0, .int 0, .ref q12, .int 0, .ref q13, .int 0])), (q1, gArr K.2.1 10 (fun _ => 0)), (q2, gArr K.2.1 10 (fun _ => 0)), (q3, gArr K.1 10 (fun _ => 0)), (q4, gArr K.1 10 (fun _ => 0)), (q5, gArr K.1 10 (fun _ => 0)), (q6, gArr K.1 200 (fun _ => 0)), (q7, gArr K.1 6 (fun _ => 0)), (q8, gArr K.2.1 40 (fun _ => 0)), (q9, gArr K.1 8 (fun _ => 0)), (q10, gArr K.1 48 (fun _ => 0)), (q11, gArr K.1 8 (fun _ => 0)), (q12, gArr K.1 6 (fun _ => 0)), (q13, gArr K.1 6 (fun _ => 0))] := hD
  exact g_vret hx hb hr hlocks (Nat.le_of_ble_eq_true rfl) (Nat.le_of_ble_eq_true rfl) hK hP hD hS dX3_init_109 (⟨fun i => [h0, q1, q2, q3, q4, q5, q6, q7, q8, q9, q10, q11, q12, q13].getD i 0, rfl, rfl⟩)
/-- what the hall's constructor takes of the tables beside its words -/
def gZ (U : State) : Prop := va_AO RX1 U ∧ va_AO RX0 U ∧ va_Nw (.methodLinkNest RX2 25 yX0_init RX2) U ∧ va_Nw (.methodLinkNest RX2 30 yX1_init RX2) U
theorem gZ_call {U : State} {g : JFrame} {mk : MethodId} {a : Array Value} (h : gZ U) : gZ (U.calling g mk a) := ⟨va_AO.moved (Vm.Alike.refl U.vm) h.1, va_AO.moved (Vm.Alike.refl U.vm) h.2.1, va_Nw.same rfl rfl h.2.2.1, va_Nw.same rfl rfl h.2.2.2⟩
theorem gZ_warm {s U : State} (hW : s.WarmedH U.vm) (h : gZ s) : gZ U := ⟨h.1.moved hW.alike, h.2.1.moved hW.alike, va_Nw.warmM hW h.2.2.1, va_Nw.warmM hW h.2.2.2⟩
def gRowF (ra oa : Nat → Nat) : Nat → Nat × va_E := fun i => (ra i, gRow (oa i) 0 0 0 0)
def gParF (pa na : Nat → Nat) : Nat → Nat × va_E := fun i => (pa i, gPar (na i) 0 0 0)
def gArrF (cI : ClassId) (n : Nat) (oa : Nat → Nat) : Nat → Nat × va_E := fun i => (oa i, gArr cI n (fun _ => 0))
theorem gRowF_up {ra oa : Nat → Nat} {i q o : Nat} : va_up (gRowF ra oa) i (q, gRow o 0 0 0 0) = gRowF (va_up ra i q) (va_up oa i o) := by
  funext j
  by_cases h : j = i
  · subst h; simp [gRowF, va_up]
  · simp [gRowF, va_up, h]
theorem gParF_up {ra oa : Nat → Nat} {i q o : Nat} : va_up (gParF ra oa) i (q, gPar o 0 0 0) = gParF (va_up ra i q) (va_up oa i o) := by
  funext j
  by_cases h : j = i
  · subst h; simp [gParF, va_up]
  · simp [gParF, va_up, h]
theorem gArrF_up {cI : ClassId} {n : Nat} {oa : Nat → Nat} {i o : Nat} : va_up (gArrF cI n oa) i (o, gArr cI n (fun _ => 0)) = gArrF cI n (va_up oa i o) := by
  funext j
  by_cases h : j = i
  · subst h; simp [gArrF, va_up]
  · simp [gArrF, va_up, h]
theorem g_atlen {X r : va_W} {x : Nat × va_E} : (X ++ x :: r)[X.length]? = some x := by simp
theorem g2_cons (n : Nat) (f g : Nat → Nat × va_E) : g2 (n + 1) f g = f 0 :: g 0 :: g2 n (fun i => f (i + 1)) (fun i => g (i + 1)) := by
  apply List.ext_getElem?
  intro k
  match k with
  | 0 => simp [g2]
  | 1 => simp [g2, show 1 < 2 * (n + 1) by omega]
  | k + 2 =>
    simp only [List.getElem?_cons_succ]
    by_cases h : k < 2 * n
    · simp only [g2, List.getElem?_map, List.getElem?_range h, List.getElem?_range (show k + 2 < 2 * (n + 1) by omega), Option.map_some]
      by_cases hm : k % 2 = 0
      · rw [if_pos hm, if_pos (by omega), show (k + 2) / 2 = k / 2 + 1 by omega]
      · rw [if_neg hm, if_neg (by omega), show (k + 2) / 2 = k / 2 + 1 by omega]
    · rw [List.getElem?_eq_none (by rw [g2_len]; omega), List.getElem?_eq_none (by rw [g2_len]; omega)]
/-- the first four cells of a hall that is being made -/
def gF4 (K : gCl) (h0 a1 a2 a3 co : Nat) (i k : Nat) (ra pb : Nat → Nat) : va_W := [(h0, gObj a1 a2 a3 co 0 0 0 0), (a1, gRef K.2.2.1 10 (gRf i ra)), (a2, gArr K.2.1 40 (fun _ => 0)), (a3, gRef K.2.2.2 8 (gRf k pb))]
def gP1 (K : gCl) (co nu : Nat) : va_W := [(co, gPar nu 0 0 0), (nu, gArr K.1 6 (fun _ => 0))]
theorem g_made {K : gCl} {h0 a1 a2 a3 co nu : Nat} {ra oa pb nb : Nat → Nat} : ((gF4 K h0 a1 a2 a3 co 10 8 ra pb ++ g2 10 (gRowF ra oa) (gArrF K.1 20 oa)) ++ gP1 K co nu) ++ g2 8 (gParF pb nb) (gArrF K.1 6 nb) = gsN K h0 a1 a2 a3 ra oa (fun j => if j = 0 then co else pb (j - 1)) (fun j => if j = 0 then nu else nb (j - 1)) := by
  unfold gsN gsW
  rw [g2_cons 8]
  simp only [List.append_assoc]
  rfl
set_option maxHeartbeats 4000000 in
set_option maxRecDepth 100000 in
theorem lp_init2 {p : Program} {l : Launch} {e : Env} {s : State} {m : MethodId} {below : List Frame} {meth : Method} {c : Code} {A : Nat → Prop} {D : va_G} {K : gCl} {h0 : Nat} {ws0 : va_W}
    (I : gIn p s m meth c A yX2_init wsX2_init cX2_init 2 none ([.ref h0] : List Value).toArray D vwCl (gT K) ws0) (hZ : gZ s) (a1 a2 a3 co nu : Nat) (ra oa : Nat → Nat) :
    ∀ (k i : Nat), i + k = 8 → ∀ (pb nb : Nat → Nat) (H : Heap) (locs : List Loc), va_P D vwCl (((gF4 K h0 a1 a2 a3 co 10 i ra pb ++ g2 10 (gRowF ra oa) (gArrF K.1 20 oa)) ++ gP1 K co nu) ++ g2 i (gParF pb nb) (gArrF K.1 6 nb)) H → va_D A (((gF4 K h0 a1 a2 a3 co 10 i ra pb ++ g2 10 (gRowF ra oa) (gArrF K.1 20 oa)) ++ gP1 K co nu) ++ g2 i (gParF pb nb) (gArrF K.1 6 nb)) → va_S A s.heap H locs → ∀ (ls : Array Slot), lv_has ls 2 [(1, .int (nI i)), (0, .ref h0)] →
    W p l e { frames := 3, cells := 41, slots := 398, locals := 60 } s m ([.ref h0] : List Value).toArray below meth c H locs (25 + 2 * i) (318 + 10 * i) (MQ below (va_Qv (fun w => ∃ (a1 a2 a3 : Nat) (ra oa pa na : Nat → Nat), w = gsN K h0 a1 a2 a3 ra oa pa na) (gB D vwCl (gT K) A) A) ([.ref h0] : List Value).toArray s 41 398 A) (F0 m 70 ls []) := by
  obtain ⟨hx, hb, hr, hml, hown, hts, hlocks, hnm, hA, hK, -, -, -⟩ := I
  have hown : s.vm.findClass RX2 = some m.cls := hown
  have hi_X2 : ∀ w ∈ u_ws RX2 TX2 8, w ∈ wsX2_init := by decide +kernel
  have hi_X1 : ∀ w ∈ u_ws RX1 TX1 5, w ∈ wsX2_init := by decide +kernel
  have hi_X0 : ∀ w ∈ u_ws RX0 TX0 4, w ∈ wsX2_init := by decide +kernel
  intro k
  induction k with
  | zero =>
    intro i hi pb nb H locs hP hD hS ls hl
    have hi8 : i = 8 := by omega
    subst hi8
    refine lv_iload_n hx hb dX2_init_70 rfl (lv_at hl 0 rfl) ?_
    refine lv_bipush (v := 8) hx hb dX2_init_71 (by decide) ?_
    refine lv_icmp_ge (tgt := 95) hx hb dX2_init_73 (by decide) (fun c73 => ?_) (fun c73 => absurd (by decide) c73)
    exact g_vret hx hb hr hlocks (Nat.le_refl _) (Nat.le_refl _) hK hP hD hS dX2_init_95 ⟨a1, a2, a3, ra, oa, _, _, g_made⟩
  | succ k ih =>
    intro i hi pb nb H locs hP hD hS ls hl
    refine lv_iload_n hx hb dX2_init_70 rfl (lv_at hl 0 rfl) ?_
    refine lv_bipush (v := 8) hx hb dX2_init_71 (by decide) ?_
    refine lv_icmp_ge (tgt := 95) hx hb dX2_init_73 (by decide) (fun c73 => ?_) (fun c73 => ?_)
    · exact absurd c73 (nI_ge (b := 8) (by omega) (by decide))
    · refine lv_aload_n hx hb dX2_init_76 rfl (lv_at hl 1 rfl) ?_
      refine va_get (C := RX2) (T := TX2) (N := 8) (ci := 2) hx hb hts hi_X2 hown hK hP (0) (rfl) rfl 2 (by decide) (hts (.fieldLink RX2 21 "GroupSeats" "queue" "[LGroupSeats$Party;") (by decide +kernel)) (fun _ h9 => h9) rfl dX2_init_77 ?_
      refine lv_iload_n hx hb dX2_init_80 rfl (lv_at hl 0 rfl) ?_
      refine va_new (ci := 0) (fs := [.null, .int 0, .int 0, .int 0]) (C := RX0) (T := TX0) (N := 4) hx hb hts hi_X0 tyX0 tyX0_ok hown (hts (.classLink RX2 19 RX0) (by decide +kernel)) (hts (.instantiable RX0 4) (by decide +kernel)) (hts (.initialized RX0) (by decide +kernel)) hK hP hD hS hA rfl (fun j hj => by rcases (show j = 0 ∨ j = 1 ∨ j = 2 ∨ j = 3 by omega) with rfl | rfl | rfl | rfl <;> rfl) (show 25 + 2 * i + 1 ≤ 41 by omega) (show 318 + 10 * i + 4 ≤ 398 by omega) dX2_init_81 (fun q H hP hD hS => ?_)
      refine lv_dup hx hb dX2_init_84 rfl ?_
      have hYY := g_part (X := ((gF4 K h0 a1 a2 a3 co 10 i ra pb ++ g2 10 (gRowF ra oa) (gArrF K.1 20 oa)) ++ gP1 K co nu) ++ g2 i (gParF pb nb) (gArrF K.1 6 nb)) (Y := [(q, .inr (0, [.null, .int 0, .int 0, .int 0]))]) hP hD
      refine g_callvF (X := ((gF4 K h0 a1 a2 a3 co 10 i ra pb ++ g2 10 (gRowF ra oa) (gArrF K.1 20 oa)) ++ gP1 K co nu) ++ g2 i (gParF pb nb) (gArrF K.1 6 nb)) (Y := [(q, .inr (0, [.null, .int 0, .int 0, .int 0]))]) (va_runIN (As := []) (rest := [.ref _, .int _, .ref _]) ⟨hx, hb, hml, hown, hts⟩ (c_Party_init l D K q H.size) ⟨va_cnB 0 hts gX2_init_X0_init_n25 rfl rfl rfl hZ.2.2.1 (hts (.initialized RX0) (by decide +kernel)) (by decide +kernel) ⟨(Nat.le_of_ble_eq_true rfl), (Nat.le_of_ble_eq_true rfl)⟩, rfl, hts (.instanceMethod yX0_init) (by decide +kernel)⟩ (g_preS hK hYY.1 hYY.2) rfl rfl hl.1 rfl (lv_room (Nat.le_of_ble_eq_true rfl)) dX2_init_85 ⟨show 25 + 2 * i + 1 + 1 ≤ 41 by omega, show 318 + 10 * i + 4 + 6 ≤ 398 by omega⟩) hP hD hS hA (fun w H locs hw hP hD hS => ?_)
      obtain ⟨o, rfl⟩ := hw
      refine va_astq hx hb hK hP hD hS 3 3 (((gF4 K h0 a1 a2 a3 co 10 i ra pb ++ g2 10 (gRowF ra oa) (gArrF K.1 20 oa)) ++ gP1 K co nu) ++ g2 i (gParF pb nb) (gArrF K.1 6 nb)).length 0 rfl rfl g_atlen rfl (vp_in_nI (show i < 8 by omega) (by decide)) dX2_init_88 (fun H locs hP hD hS => ?_)
      have hP : va_P D vwCl ((((([(h0, gObj a1 a2 a3 co 0 0 0 0), (a1, gRef K.2.2.1 10 (gRf 10 ra)), (a2, gArr K.2.1 40 (fun _ => 0)), (a3, gRef K.2.2.2 8 (va_up (gRf i pb) (nI i).toNatClampNeg (some q)))] : va_W) ++ g2 10 (gRowF ra oa) (gArrF K.1 20 oa)) ++ gP1 K co nu) ++ g2 i (gParF pb nb) (gArrF K.1 6 nb)) ++ [(q, gPar o 0 0 0), (o, gArr K.1 6 (fun _ => 0))]) H := hP
      have hD : va_D A ((((([(h0, gObj a1 a2 a3 co 0 0 0 0), (a1, gRef K.2.2.1 10 (gRf 10 ra)), (a2, gArr K.2.1 40 (fun _ => 0)), (a3, gRef K.2.2.2 8 (va_up (gRf i pb) (nI i).toNatClampNeg (some q)))] : va_W) ++ g2 10 (gRowF ra oa) (gArrF K.1 20 oa)) ++ gP1 K co nu) ++ g2 i (gParF pb nb) (gArrF K.1 6 nb)) ++ [(q, gPar o 0 0 0), (o, gArr K.1 6 (fun _ => 0))]) := hD
      rw [List.append_assoc, g2_push, gParF_up, gArrF_up, nI_clamp (by omega), gRf_up] at hP hD
      have hP : va_P D vwCl (((gF4 K h0 a1 a2 a3 co 10 (i + 1) ra (va_up pb i q) ++ g2 10 (gRowF ra oa) (gArrF K.1 20 oa)) ++ gP1 K co nu) ++ g2 (i + 1) (gParF (va_up pb i q) (va_up nb i o)) (gArrF K.1 6 (va_up nb i o))) H := hP
      have hD : va_D A (((gF4 K h0 a1 a2 a3 co 10 (i + 1) ra (va_up pb i q) ++ g2 10 (gRowF ra oa) (gArrF K.1 20 oa)) ++ gP1 K co nu) ++ g2 (i + 1) (gParF (va_up pb i q) (va_up nb i o)) (gArrF K.1 6 (va_up nb i o))) := hD
      refine lv_iinc (lv' := [(1, .int _), (0, .ref _)]) hx hb dX2_init_89 hl (k := 0) rfl rfl (by decide) rfl (fun ls hl => ?_)
      refine lv_goto (tgt := 70) hx hb dX2_init_92 (by decide) ?_
      rw [g_inc] at hl
      refine W.widen (k := 25 + 2 * (i + 1)) (n := 318 + 10 * (i + 1)) (by omega) (by omega) ?_
      exact ih (i + 1) (by omega) (va_up pb i q) (va_up nb i o) H locs hP hD hS ls (lv_sub hl [0, 1] rfl)
set_option maxHeartbeats 4000000 in
set_option maxRecDepth 100000 in
theorem lp_init1 {p : Program} {l : Launch} {e : Env} {s : State} {m : MethodId} {below : List Frame} {meth : Method} {c : Code} {A : Nat → Prop} {D : va_G} {K : gCl} {h0 : Nat} {ws0 : va_W}
    (I : gIn p s m meth c A yX2_init wsX2_init cX2_init 2 none ([.ref h0] : List Value).toArray D vwCl (gT K) ws0) (hZ : gZ s) (a1 a2 a3 co nu : Nat) (pb : Nat → Nat) :
    ∀ (k i : Nat), i + k = 10 → ∀ (ra oa : Nat → Nat) (H : Heap) (locs : List Loc), va_P D vwCl ((gF4 K h0 a1 a2 a3 co i 0 ra pb ++ gP1 K co nu) ++ g2 i (gRowF ra oa) (gArrF K.1 20 oa)) H → va_D A ((gF4 K h0 a1 a2 a3 co i 0 ra pb ++ gP1 K co nu) ++ g2 i (gRowF ra oa) (gArrF K.1 20 oa)) → va_S A s.heap H locs → ∀ (ls : Array Slot), lv_has ls 2 [(1, .int (nI i)), (0, .ref h0)] →
    W p l e { frames := 3, cells := 41, slots := 398, locals := 60 } s m ([.ref h0] : List Value).toArray below meth c H locs (5 + 2 * i) (68 + 25 * i) (MQ below (va_Qv (fun w => ∃ (a1 a2 a3 : Nat) (ra oa pa na : Nat → Nat), w = gsN K h0 a1 a2 a3 ra oa pa na) (gB D vwCl (gT K) A) A) ([.ref h0] : List Value).toArray s 41 398 A) (F0 m 43 ls []) := by
  have I0 := I
  obtain ⟨hx, hb, hr, hml, hown, hts, hlocks, hnm, hA, hK, -, -, -⟩ := I
  have hown : s.vm.findClass RX2 = some m.cls := hown
  have hi_X2 : ∀ w ∈ u_ws RX2 TX2 8, w ∈ wsX2_init := by decide +kernel
  have hi_X1 : ∀ w ∈ u_ws RX1 TX1 5, w ∈ wsX2_init := by decide +kernel
  have hi_X0 : ∀ w ∈ u_ws RX0 TX0 4, w ∈ wsX2_init := by decide +kernel
  intro k
  induction k with
  | zero =>
    intro i hi ra oa H locs hP hD hS ls hl
    have hi10 : i = 10 := by omega
    subst hi10
    refine lv_iload_n hx hb dX2_init_43 rfl (lv_at hl 0 rfl) ?_
    refine lv_bipush (v := 10) hx hb dX2_init_44 (by decide) ?_
    refine lv_icmp_ge (tgt := 68) hx hb dX2_init_46 (by decide) (fun c46 => ?_) (fun c46 => absurd (by decide) c46)
    refine lv_iconst (v := 0) hx hb dX2_init_68 (by decide) ?_
    refine lv_istore_n (lv' := [(1, .int _), (0, .ref _)]) hx hb dX2_init_69 rfl hl (by decide) rfl (fun ls hl => ?_)
    have hP := va_P.swap hP
    have hD := va_D.swap hD
    exact lp_init2 I0 hZ a1 a2 a3 co nu ra oa 8 0 rfl pb pb H locs (by rw [g2_0, List.append_nil]; exact hP) (by rw [g2_0, List.append_nil]; exact hD) hS ls (lv_sub hl [0, 1] rfl)
  | succ k ih =>
    intro i hi ra oa H locs hP hD hS ls hl
    refine lv_iload_n hx hb dX2_init_43 rfl (lv_at hl 0 rfl) ?_
    refine lv_bipush (v := 10) hx hb dX2_init_44 (by decide) ?_
    refine lv_icmp_ge (tgt := 68) hx hb dX2_init_46 (by decide) (fun c46 => ?_) (fun c46 => ?_)
    · exact absurd c46 (nI_ge (b := 10) (by omega) (by decide))
    · refine lv_aload_n hx hb dX2_init_49 rfl (lv_at hl 1 rfl) ?_
      refine va_get (C := RX2) (T := TX2) (N := 8) (ci := 2) hx hb hts hi_X2 hown hK hP (0) (rfl) rfl 0 (by decide) (hts (.fieldLink RX2 11 "GroupSeats" "rows" "[LGroupSeats$Row;") (by decide +kernel)) (fun _ h9 => h9) rfl dX2_init_50 ?_
      refine lv_iload_n hx hb dX2_init_53 rfl (lv_at hl 0 rfl) ?_
      refine va_new (ci := 1) (fs := [.null, .int 0, .int 0, .int 0, .int 0]) (C := RX1) (T := TX1) (N := 5) hx hb hts hi_X1 tyX1 tyX1_ok hown (hts (.classLink RX2 9 RX1) (by decide +kernel)) (hts (.instantiable RX1 5) (by decide +kernel)) (hts (.initialized RX1) (by decide +kernel)) hK hP hD hS hA rfl (fun j hj => by rcases (show j = 0 ∨ j = 1 ∨ j = 2 ∨ j = 3 ∨ j = 4 by omega) with rfl | rfl | rfl | rfl | rfl <;> rfl) (show 5 + 2 * i + 1 ≤ 41 by omega) (show 68 + 25 * i + 5 ≤ 398 by omega) dX2_init_54 (fun q H hP hD hS => ?_)
      refine lv_dup hx hb dX2_init_57 rfl ?_
      have hYY := g_part (X := (gF4 K h0 a1 a2 a3 co i 0 ra pb ++ gP1 K co nu) ++ g2 i (gRowF ra oa) (gArrF K.1 20 oa)) (Y := [(q, .inr (1, [.null, .int 0, .int 0, .int 0, .int 0]))]) hP hD
      refine g_callvF (X := (gF4 K h0 a1 a2 a3 co i 0 ra pb ++ gP1 K co nu) ++ g2 i (gRowF ra oa) (gArrF K.1 20 oa)) (Y := [(q, .inr (1, [.null, .int 0, .int 0, .int 0, .int 0]))]) (va_runIN (As := []) (rest := [.ref _, .int _, .ref _]) ⟨hx, hb, hml, hown, hts⟩ (c_Row_init l D K q H.size) ⟨va_cnB 0 hts gX2_init_X1_init_n30 rfl rfl rfl hZ.2.2.2 (hts (.initialized RX1) (by decide +kernel)) (by decide +kernel) ⟨(Nat.le_of_ble_eq_true rfl), (Nat.le_of_ble_eq_true rfl)⟩, rfl, hts (.instanceMethod yX1_init) (by decide +kernel)⟩ (g_preS hK hYY.1 hYY.2) rfl rfl hl.1 rfl (lv_room (Nat.le_of_ble_eq_true rfl)) dX2_init_58 ⟨show 5 + 2 * i + 1 + 1 ≤ 41 by omega, show 68 + 25 * i + 5 + 20 ≤ 398 by omega⟩) hP hD hS hA (fun w H locs hw hP hD hS => ?_)
      obtain ⟨o, rfl⟩ := hw
      refine va_astq hx hb hK hP hD hS 1 2 ((gF4 K h0 a1 a2 a3 co i 0 ra pb ++ gP1 K co nu) ++ g2 i (gRowF ra oa) (gArrF K.1 20 oa)).length 1 rfl rfl g_atlen rfl (vp_in_nI (show i < 10 by omega) (by decide)) dX2_init_61 (fun H locs hP hD hS => ?_)
      have hP : va_P D vwCl (((([(h0, gObj a1 a2 a3 co 0 0 0 0), (a1, gRef K.2.2.1 10 (va_up (gRf i ra) (nI i).toNatClampNeg (some q))), (a2, gArr K.2.1 40 (fun _ => 0)), (a3, gRef K.2.2.2 8 (gRf 0 pb))] : va_W) ++ gP1 K co nu) ++ g2 i (gRowF ra oa) (gArrF K.1 20 oa)) ++ [(q, gRow o 0 0 0 0), (o, gArr K.1 20 (fun _ => 0))]) H := hP
      have hD : va_D A (((([(h0, gObj a1 a2 a3 co 0 0 0 0), (a1, gRef K.2.2.1 10 (va_up (gRf i ra) (nI i).toNatClampNeg (some q))), (a2, gArr K.2.1 40 (fun _ => 0)), (a3, gRef K.2.2.2 8 (gRf 0 pb))] : va_W) ++ gP1 K co nu) ++ g2 i (gRowF ra oa) (gArrF K.1 20 oa)) ++ [(q, gRow o 0 0 0 0), (o, gArr K.1 20 (fun _ => 0))]) := hD
      rw [List.append_assoc, g2_push, gRowF_up, gArrF_up, nI_clamp (by omega), gRf_up] at hP hD
      have hP : va_P D vwCl ((gF4 K h0 a1 a2 a3 co (i + 1) 0 (va_up ra i q) pb ++ gP1 K co nu) ++ g2 (i + 1) (gRowF (va_up ra i q) (va_up oa i o)) (gArrF K.1 20 (va_up oa i o))) H := hP
      have hD : va_D A ((gF4 K h0 a1 a2 a3 co (i + 1) 0 (va_up ra i q) pb ++ gP1 K co nu) ++ g2 (i + 1) (gRowF (va_up ra i q) (va_up oa i o)) (gArrF K.1 20 (va_up oa i o))) := hD
      refine lv_iinc (lv' := [(1, .int _), (0, .ref _)]) hx hb dX2_init_62 hl (k := 0) rfl rfl (by decide) rfl (fun ls hl => ?_)
      refine lv_goto (tgt := 43) hx hb dX2_init_65 (by decide) ?_
      rw [g_inc] at hl
      refine W.widen (k := 5 + 2 * (i + 1)) (n := 68 + 25 * (i + 1)) (by omega) (by omega) ?_
      exact ih (i + 1) (by omega) (va_up ra i q) (va_up oa i o) H locs hP hD hS ls (lv_sub hl [0, 1] rfl)
set_option maxHeartbeats 4000000 in
set_option maxRecDepth 100000 in
/-- new GroupSeats() -/
theorem c_init (l : Launch) (D : va_G) (K : gCl) (h0 : Nat) (sz : Nat) : Met l yX2_init wsX2_init ({ frames := 3, cells := 41, slots := 398, locals := 60 } : Room) (va_Pc [.ref h0] (fun U => gPre D vwCl (gT K) [(h0, .inr (2, [.null, .null, .null, .null, .int 0, .int 0, .int 0, .int 0]))] sz U ∧ gZ U)) (va_Qv (fun w => ∃ (a1 a2 a3 : Nat) (ra oa pa na : Nat → Nat), w = gsN K h0 a1 a2 a3 ra oa pa na) (gB D vwCl (gT K) (va_A [(h0, .inr (2, [.null, .null, .null, .null, .int 0, .int 0, .int 0, .int 0]))] sz)) (va_A [(h0, .inr (2, [.null, .null, .null, .null, .int 0, .int 0, .int 0, .int 0]))] sz)) 41 398 (va_A [(h0, .inr (2, [.null, .null, .null, .null, .int 0, .int 0, .int 0, .int 0]))] sz) := by
  refine g_ofZ (cc := cX2_init) (maxL := 2) (ret := none) (Qc := fun A => va_Qv (fun w => ∃ (a1 a2 a3 : Nat) (ra oa pa na : Nat → Nat), w = gsN K h0 a1 a2 a3 ra oa pa na) (gB D vwCl (gT K) A) A) (by decide) rfl (Nat.le_of_ble_eq_true rfl) ?_
  intro p e s m below meth c A ls I hZ hl
  have I0 := I
  obtain ⟨hx, hb, hr, hml, hown, hts, hlocks, hnm, hA, hK, hP, hD, hS⟩ := I
  have hown : s.vm.findClass RX2 = some m.cls := hown
  have hl : lv_has ls 2 [(0, .ref h0)] := hl
  have hi_X2 : ∀ w ∈ u_ws RX2 TX2 8, w ∈ wsX2_init := by decide +kernel
  have hi_X0 : ∀ w ∈ u_ws RX0 TX0 4, w ∈ wsX2_init := by decide +kernel
  have hoi : Cond.code objectInit ⟨#[0xb1]⟩ 1 none ∈ wsX2_init := List.mem_cons_of_mem _ (List.mem_append_left _ (List.mem_append_left _ (List.mem_append_left _ (List.mem_of_getElem? (i := 2) rfl))))
  refine lv_aload_n hx hb dX2_init_0 rfl (lv_at hl 0 rfl) ?_
  refine W.objInit hx hb hown (hts (.methodLink RX2 1 objectInit) (by decide +kernel)) (hts (.instanceMethod objectInit) (by decide +kernel)) (hts _ hoi) rfl (by rw [hml]; exact hl.1) rfl dX2_init_1 (Nat.le_of_ble_eq_true rfl) (Nat.le_of_ble_eq_true rfl) ?_
  refine W.eq (g2 := F0 m 4 ls []) rfl ?_
  refine lv_aload_n hx hb dX2_init_4 rfl (lv_at hl 0 rfl) ?_
  refine lv_bipush (v := 10) hx hb dX2_init_5 (by decide) ?_
  refine g_newq (C := RX1) (N' := 10) hx hb hown (hts (.classLink RX2 9 RX1) (by decide +kernel)) hZ.1 hK hP hD hS hA 2 rfl (by decide) (by decide) (Nat.le_of_ble_eq_true rfl) (Nat.le_of_ble_eq_true rfl) (Nat.le_of_ble_eq_true rfl) dX2_init_7 (fun a1 H hP hD hS => ?_)
  have hP : va_P D vwCl ([(h0, .inr (2, [.null, .null, .null, .null, .int 0, .int 0, .int 0, .int 0])), (a1, gRef K.2.2.1 10 (fun _ => none))]) H := hP
  have hD : va_D A ([(h0, .inr (2, [.null, .null, .null, .null, .int 0, .int 0, .int 0, .int 0])), (a1, gRef K.2.2.1 10 (fun _ => none))]) := hD
  refine va_putF (C := RX2) (T := TX2) (N := 8) (ci := 2) (ty := .array (.object "GroupSeats$Row")) hx hb hts hi_X2 tyX2 tyX2_ok nmX2 hown hK hP hD hS (0) (rfl) rfl 0 (by decide) (hts (.fieldLink RX2 11 "GroupSeats" "rows" "[LGroupSeats$Row;") (by decide +kernel)) (fun _ h9 => h9) rfl hnm rfl (by decide +kernel) rfl rfl (Nat.le_of_ble_eq_true rfl) dX2_init_10 (fun H locs hP hD hS => ?_)
  have hP : va_P D vwCl ([(h0, .inr (2, [.ref a1, .null, .null, .null, .int 0, .int 0, .int 0, .int 0])), (a1, gRef K.2.2.1 10 (fun _ => none))]) H := hP
  have hD : va_D A ([(h0, .inr (2, [.ref a1, .null, .null, .null, .int 0, .int 0, .int 0, .int 0])), (a1, gRef K.2.2.1 10 (fun _ => none))]) := hD
  refine lv_aload_n hx hb dX2_init_13 rfl (lv_at hl 0 rfl) ?_
  refine lv_bipush (v := 40) hx hb dX2_init_14 (by decide) ?_
  refine g_newa (atype := .boolean) (ty := .boolean) (N' := 40) (a0 := (40, .inl (fun _ => 0))) hx hb (hts (.arrayClass .boolean) (by decide +kernel)) rfl hK hP hD hS hA 1 rfl (fun _ => rfl) (by decide) (by decide) (Nat.le_of_ble_eq_true rfl) (Nat.le_of_ble_eq_true rfl) (Nat.le_of_ble_eq_true rfl) dX2_init_16 (fun a2 H hP hD hS => ?_)
  have hP : va_P D vwCl ([(h0, .inr (2, [.ref a1, .null, .null, .null, .int 0, .int 0, .int 0, .int 0])), (a1, gRef K.2.2.1 10 (fun _ => none)), (a2, gArr K.2.1 40 (fun _ => 0))]) H := hP
  have hD : va_D A ([(h0, .inr (2, [.ref a1, .null, .null, .null, .int 0, .int 0, .int 0, .int 0])), (a1, gRef K.2.2.1 10 (fun _ => none)), (a2, gArr K.2.1 40 (fun _ => 0))]) := hD
  refine va_putF (C := RX2) (T := TX2) (N := 8) (ci := 2) (ty := .array .boolean) hx hb hts hi_X2 tyX2 tyX2_ok nmX2 hown hK hP hD hS (0) (rfl) rfl 1 (by decide) (hts (.fieldLink RX2 15 "GroupSeats" "cancelled" "[Z") (by decide +kernel)) (fun _ h9 => h9) rfl hnm rfl (by decide +kernel) rfl rfl (Nat.le_of_ble_eq_true rfl) dX2_init_18 (fun H locs hP hD hS => ?_)
  have hP : va_P D vwCl ([(h0, .inr (2, [.ref a1, .ref a2, .null, .null, .int 0, .int 0, .int 0, .int 0])), (a1, gRef K.2.2.1 10 (fun _ => none)), (a2, gArr K.2.1 40 (fun _ => 0))]) H := hP
  have hD : va_D A ([(h0, .inr (2, [.ref a1, .ref a2, .null, .null, .int 0, .int 0, .int 0, .int 0])), (a1, gRef K.2.2.1 10 (fun _ => none)), (a2, gArr K.2.1 40 (fun _ => 0))]) := hD
  refine lv_aload_n hx hb dX2_init_21 rfl (lv_at hl 0 rfl) ?_
  refine lv_bipush (v := 8) hx hb dX2_init_22 (by decide) ?_
  refine g_newq (C := RX0) (N' := 8) hx hb hown (hts (.classLink RX2 19 RX0) (by decide +kernel)) hZ.2.1 hK hP hD hS hA 3 rfl (by decide) (by decide) (Nat.le_of_ble_eq_true rfl) (Nat.le_of_ble_eq_true rfl) (Nat.le_of_ble_eq_true rfl) dX2_init_24 (fun a3 H hP hD hS => ?_)
  have hP : va_P D vwCl ([(h0, .inr (2, [.ref a1, .ref a2, .null, .null, .int 0, .int 0, .int 0, .int 0])), (a1, gRef K.2.2.1 10 (fun _ => none)), (a2, gArr K.2.1 40 (fun _ => 0)), (a3, gRef K.2.2.2 8 (fun _ => none))]) H := hP
  have hD : va_D A ([(h0, .inr (2, [.ref a1, .ref a2, .null, .null, .int 0, .int 0, .int 0, .int 0])), (a1, gRef K.2.2.1 10 (fun _ => none)), (a2, gArr K.2.1 40 (fun _ => 0)), (a3, gRef K.2.2.2 8 (fun _ => none))]) := hD
  refine va_putF (C := RX2) (T := TX2) (N := 8) (ci := 2) (ty := .array (.object "GroupSeats$Party")) hx hb hts hi_X2 tyX2 tyX2_ok nmX2 hown hK hP hD hS (0) (rfl) rfl 2 (by decide) (hts (.fieldLink RX2 21 "GroupSeats" "queue" "[LGroupSeats$Party;") (by decide +kernel)) (fun _ h9 => h9) rfl hnm rfl (by decide +kernel) rfl rfl (Nat.le_of_ble_eq_true rfl) dX2_init_27 (fun H locs hP hD hS => ?_)
  have hP : va_P D vwCl ([(h0, .inr (2, [.ref a1, .ref a2, .ref a3, .null, .int 0, .int 0, .int 0, .int 0])), (a1, gRef K.2.2.1 10 (fun _ => none)), (a2, gArr K.2.1 40 (fun _ => 0)), (a3, gRef K.2.2.2 8 (fun _ => none))]) H := hP
  have hD : va_D A ([(h0, .inr (2, [.ref a1, .ref a2, .ref a3, .null, .int 0, .int 0, .int 0, .int 0])), (a1, gRef K.2.2.1 10 (fun _ => none)), (a2, gArr K.2.1 40 (fun _ => 0)), (a3, gRef K.2.2.2 8 (fun _ => none))]) := hD
  refine lv_aload_n hx hb dX2_init_30 rfl (lv_at hl 0 rfl) ?_
  refine va_new (ci := 0) (fs := [.null, .int 0, .int 0, .int 0]) (C := RX0) (T := TX0) (N := 4) hx hb hts hi_X0 tyX0 tyX0_ok hown (hts (.classLink RX2 19 RX0) (by decide +kernel)) (hts (.instantiable RX0 4) (by decide +kernel)) (hts (.initialized RX0) (by decide +kernel)) hK hP hD hS hA rfl (fun j hj => by rcases (show j = 0 ∨ j = 1 ∨ j = 2 ∨ j = 3 by omega) with rfl | rfl | rfl | rfl <;> rfl) (Nat.le_of_ble_eq_true rfl) (Nat.le_of_ble_eq_true rfl) dX2_init_31 (fun co H hP hD hS => ?_)
  refine lv_dup hx hb dX2_init_34 rfl ?_
  have hYY := g_part (X := [(h0, .inr (2, [.ref a1, .ref a2, .ref a3, .null, .int 0, .int 0, .int 0, .int 0])), (a1, gRef K.2.2.1 10 (fun _ => none)), (a2, gArr K.2.1 40 (fun _ => 0)), (a3, gRef K.2.2.2 8 (fun _ => none))]) (Y := [(co, .inr (0, [.null, .int 0, .int 0, .int 0]))]) hP hD
  refine g_callvF (X := [(h0, .inr (2, [.ref a1, .ref a2, .ref a3, .null, .int 0, .int 0, .int 0, .int 0])), (a1, gRef K.2.2.1 10 (fun _ => none)), (a2, gArr K.2.1 40 (fun _ => 0)), (a3, gRef K.2.2.2 8 (fun _ => none))]) (Y := [(co, .inr (0, [.null, .int 0, .int 0, .int 0]))]) (va_runIN (As := []) (rest := [.ref _, .ref _]) ⟨hx, hb, hml, hown, hts⟩ (c_Party_init l D K co H.size) ⟨va_cnB 0 hts gX2_init_X0_init_n25 rfl rfl rfl hZ.2.2.1 (hts (.initialized RX0) (by decide +kernel)) (by decide +kernel) ⟨(Nat.le_of_ble_eq_true rfl), (Nat.le_of_ble_eq_true rfl)⟩, rfl, hts (.instanceMethod yX0_init) (by decide +kernel)⟩ (g_preS hK hYY.1 hYY.2) rfl rfl hl.1 rfl (lv_room (Nat.le_of_ble_eq_true rfl)) dX2_init_35 ⟨(Nat.le_of_ble_eq_true rfl), (Nat.le_of_ble_eq_true rfl)⟩) hP hD hS hA (fun w H locs hw hP hD hS => ?_)
  obtain ⟨nu, rfl⟩ := hw
  have hP : va_P D vwCl ([(h0, .inr (2, [.ref a1, .ref a2, .ref a3, .null, .int 0, .int 0, .int 0, .int 0])), (a1, gRef K.2.2.1 10 (fun _ => none)), (a2, gArr K.2.1 40 (fun _ => 0)), (a3, gRef K.2.2.2 8 (fun _ => none)), (co, gPar nu 0 0 0), (nu, gArr K.1 6 (fun _ => 0))]) H := hP
  have hD : va_D A ([(h0, .inr (2, [.ref a1, .ref a2, .ref a3, .null, .int 0, .int 0, .int 0, .int 0])), (a1, gRef K.2.2.1 10 (fun _ => none)), (a2, gArr K.2.1 40 (fun _ => 0)), (a3, gRef K.2.2.2 8 (fun _ => none)), (co, gPar nu 0 0 0), (nu, gArr K.1 6 (fun _ => 0))]) := hD
  refine va_put (C := RX2) (T := TX2) (N := 8) (ci := 2) (ty := .object "GroupSeats$Party") hx hb hts hi_X2 tyX2 tyX2_ok nmX2 hown hK hP hD hS (0) (rfl) rfl 3 (by decide) (hts (.fieldLink RX2 26 "GroupSeats" "coming" "LGroupSeats$Party;") (by decide +kernel)) (fun _ h9 => h9) rfl (by decide +kernel) rfl rfl (Nat.le_of_ble_eq_true rfl) dX2_init_38 (fun H locs hP hD hS => ?_)
  have hP : va_P D vwCl ([(h0, .inr (2, [.ref a1, .ref a2, .ref a3, .ref co, .int 0, .int 0, .int 0, .int 0])), (a1, gRef K.2.2.1 10 (fun _ => none)), (a2, gArr K.2.1 40 (fun _ => 0)), (a3, gRef K.2.2.2 8 (fun _ => none)), (co, gPar nu 0 0 0), (nu, gArr K.1 6 (fun _ => 0))]) H := hP
  have hD : va_D A ([(h0, .inr (2, [.ref a1, .ref a2, .ref a3, .ref co, .int 0, .int 0, .int 0, .int 0])), (a1, gRef K.2.2.1 10 (fun _ => none)), (a2, gArr K.2.1 40 (fun _ => 0)), (a3, gRef K.2.2.2 8 (fun _ => none)), (co, gPar nu 0 0 0), (nu, gArr K.1 6 (fun _ => 0))]) := hD
  refine lv_iconst (v := 0) hx hb dX2_init_41 (by decide) ?_
  refine lv_istore_n (lv' := [(1, .int _), (0, .ref _)]) hx hb dX2_init_42 rfl hl (by decide) rfl (fun ls hl => ?_)
  rw [gRf_0 (fun _ => 0)] at hP hD
  exact lp_init1 I0 hZ a1 a2 a3 co nu (fun _ => 0) 10 0 rfl (fun _ => 0) (fun _ => 0) H locs hP hD hS ls (lv_sub hl [0, 1] rfl)
