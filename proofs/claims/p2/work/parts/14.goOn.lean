/-- behind a walk through the rows: its answer, and the hall -/
def gPo (K : gCl) (a : Nat → Nat → Nat) (z : Nat → Nat) (sd : Nat → Int32) (pl pn pm : Nat → Int32) (nm : Nat → Nat → Int32) (cn : Nat → Int32) (co : Nat) (qu : Nat → Nat) (B wt : Nat) (fl : Int32) (ow : Nat → Nat → Int32) (G : Int32 × (Nat → Nat → Int32) × Nat) : Int32 → va_W → Prop := fun r1 w1 => r1 = G.1 ∧ ∃ ho' bk' : Nat → Int32, w1 = hW K a z sd ho' bk' (if G.1 = 0 then G.2.1 else ow) pl pn pm nm cn co qu (nI B) (nI wt) (nI G.2.2) fl
theorem gPo_same {K : gCl} {a : Nat → Nat → Nat} {z : Nat → Nat} {sd ho bk : Nat → Int32} {pl pn pm : Nat → Int32} {nm : Nat → Nat → Int32} {cn : Nat → Int32} {co : Nat} {qu : Nat → Nat} {B wt : Nat} {fl : Int32} {ow : Nat → Nat → Int32} {c : Int32} {mh : Nat} : gPo K a z sd pl pn pm nm cn co qu B wt fl ow (c, ow, mh) c (hW K a z sd ho bk ow pl pn pm nm cn co qu (nI B) (nI wt) (nI mh) fl) := ⟨rfl, ho, bk, by simp⟩
def rmGo (d : Nat) : Room := { frames := d + 3, cells := 0, slots := 0, locals := 100 + 30 * d }
theorem goA_step {z : Nat → Nat} {sd : Nat → Int32} {b : Int32} {n : Nat} {mo : Int32} {r : Nat} {rs : List Nat} {w p : Nat} {ow : Nat → Nat → Int32} {mh : Nat} (hw : w ≠ 0) (ho : obsL z (r :: rs) = 0) : goA z sd b n mo (r :: rs) w p ow mh = goA z sd b n mo rs (w - tkC (ow r) (z r) (sd r) w) (p + 1) (va_up ow r (tkF b (ow r) (z r) (sd r) w)) (max mh (p + 1)) := by
  simp only [goA, if_neg hw, if_pos ho]
set_option maxHeartbeats 4000000 in
set_option maxRecDepth 100000 in
/-- goOn: by induction on the rows that are left -/
theorem c_goOn (l : Launch) (D : va_G) (K : gCl) (a : Nat → Nat → Nat) (z : Nat → Nat) (sd : Nat → Int32) (pl pn pm : Nat → Int32) (nm : Nat → Nat → Int32) (cn : Nat → Int32) (co : Nat) (qu : Nat → Nat) (B wt : Nat) (fl : Int32) (j n : Nat) (mo : Int32) (L : List Nat) (hj : j < 9) (hz : ∀ i, i < 10 → z i ≤ 20) (hlen : pl j = nI L.length) (hL : isL (nm j) L) (hn : pn j = nI n) (hn60 : n ≤ 60) (hmo : pm j = mo) (hB : B < 100) :
    ∀ (rs : List Nat) (p0 w mh : Nat) (ho bk : Nat → Int32) (ow : Nat → Nat → Int32) (sz : Nat), L.drop p0 = rs → p0 ≤ 6 → w ≤ 60 → mh ≤ 100 →
    gMi l yX2_goOn wsX2_goOn (rmGo rs.length) D vwCl (gT K) [.ref (a 0 0), .ref (a 3 j), .int (nI p0), .int (nI w)] (hW K a z sd ho bk ow pl pn pm nm cn co qu (nI B) (nI wt) (nI mh) fl) sz (gPo K a z sd pl pn pm nm cn co qu B wt fl ow (goA z sd (nI B) n mo rs w p0 ow mh)) 0 0 := by
  have hL6 := hL.1
  have hb8 : nI B ≠ -8 := fun h => by
    have h2 := congrArg Int32.toInt h
    rw [nI_toInt (by omega)] at h2
    exact absurd h2 (by rw [show (-8 : Int32).toInt = -8 from rfl]; omega)
  intro rs
  induction rs with
  | nil =>
    intro p0 w mh ho bk ow sz e0 hp6 hw60 hmh
    refine g_of (cc := cX2_goOn) (maxL := 8) (ret := some .int) (Qc := fun A => va_Qi (gPo K a z sd pl pn pm nm cn co qu B wt fl ow (goA z sd (nI B) n mo [] w p0 ow mh)) (gB D vwCl (gT K) A) A) (by decide) rfl (Nat.le_of_ble_eq_true rfl) ?_
    intro p e s m below meth c A ls I hl
    have I0 := I
    obtain ⟨hx, hb, hr, hml, hown, hts, hlocks, hnm, hA, hK, hP, hD, hS⟩ := I
    have hown : s.vm.findClass RX2 = some m.cls := hown
    have hl : lv_has ls 8 [(0, .ref (a 0 0)), (1, .ref (a 3 j)), (2, .int (nI p0)), (3, .int (nI w))] := hl
    have hi_X2 : ∀ w ∈ u_ws RX2 TX2 8, w ∈ wsX2_goOn := by decide +kernel
    have hi_X1 : ∀ w ∈ u_ws RX1 TX1 5, w ∈ wsX2_goOn := by decide +kernel
    have hi_X0 : ∀ w ∈ u_ws RX0 TX0 4, w ∈ wsX2_goOn := by decide +kernel
    refine lv_iload_n hx hb dX2_goOn_0 rfl (lv_at hl 3 rfl) ?_
    refine lv_if_gt (tgt := 6) hx hb dX2_goOn_1 (by decide) (fun c1 => ?_) (fun c1 => ?_)
    · have hw0 : w ≠ 0 := fun q => absurd c1 (by rw [q]; decide)
      refine lv_aload_n hx hb dX2_goOn_6 rfl (lv_at hl 0 rfl) ?_
      refine lv_aload_n hx hb dX2_goOn_7 rfl (lv_at hl 1 rfl) ?_
      refine lv_iload_n hx hb dX2_goOn_8 rfl (lv_at hl 2 rfl) ?_
      refine g_calli (va_runV (As := [.ref _, .int _]) (rest := []) ⟨hx, hb, hml, hown, hts⟩ (c_obstacleAt l D K a z sd ho bk ow pl pn pm nm cn co qu B wt mh fl j p0 L _ hj hp6 hz hlen hL) (cwV 2 hts gX2_goOn_X2_obstacleAt rfl rfl rfl (by decide +kernel) ⟨by show 1 + 1 ≤ 0 + 3; omega, by show 8 + (4 + 11) + 40 ≤ 100 + 30 * 0; omega⟩) (g_preV hK hP hD (ci := 2) (q0 := 0) rfl (rfl)) rfl rfl hl.1 rfl (lv_room (Nat.le_of_ble_eq_true rfl)) dX2_goOn_9 ⟨Nat.zero_le _, Nat.zero_le _⟩) hD hS hA (fun r9 wv H locs hw hP hD hS => ?_)
      obtain ⟨ew, er⟩ := hw
      rw [ew] at hP hD
      rw [e0] at er
      subst er
      refine lv_istore (lv' := [(4, .int _), (0, .ref _), (1, .ref _), (2, .int _), (3, .int _)]) hx hb dX2_goOn_12 hl (by decide) rfl (fun ls hl => ?_)
      refine lv_iload hx hb dX2_goOn_14 (lv_at hl 0 rfl) ?_
      refine lv_if_eq (tgt := 54) hx hb dX2_goOn_16 (by decide) (fun c16 => ?_) (fun c16 => ?_)
      · exact absurd (show (-4 : Int32) = 0 from c16) (by decide)
      · refine lv_aload_n hx hb dX2_goOn_19 rfl (lv_at hl 2 rfl) ?_
        refine va_get (C := RX0) (T := TX0) (N := 4) (ci := 0) hx hb hts hi_X0 hown hK hP (2 * j + 20 + 4) (hW_par hj) rfl 3 (by decide) (hts (.fieldLink RX2 70 "GroupSeats$Party" "mode" "I") (by decide +kernel)) (fun _ h9 => h9) rfl dX2_goOn_20 ?_
        refine lv_iconst (v := 1) hx hb dX2_goOn_23 (by decide) ?_
        refine lv_icmp_ne (tgt := 39) hx hb dX2_goOn_24 (by decide) (fun c24 => ?_) (fun c24 => ?_)
        · refine lv_iconst (v := 0) hx hb dX2_goOn_39 (by decide) ?_
          refine lv_istore (lv' := [(5, .int _), (4, .int _), (0, .ref _), (1, .ref _), (2, .int _), (3, .int _)]) hx hb dX2_goOn_40 hl (by decide) rfl (fun ls hl => ?_)
          refine lv_iload hx hb dX2_goOn_42 (lv_at hl 0 rfl) ?_
          refine lv_if_eq (tgt := 51) hx hb dX2_goOn_44 (by decide) (fun c44 => ?_) (fun c44 => ?_)
          · refine lv_iload hx hb dX2_goOn_51 (lv_at hl 1 rfl) ?_
            exact g_iret hx hb hr hlocks (Nat.le_of_ble_eq_true rfl) (Nat.le_of_ble_eq_true rfl) hK hP hD hS dX2_goOn_53 (by rw [goA_stop hw0 c16]; rw [if_neg (fun h => c24 (hmo.trans h.1))]; exact gPo_same)
          · exact absurd rfl c44
        · refine lv_iload_n hx hb dX2_goOn_27 rfl (lv_at hl 4 rfl) ?_
          refine lv_aload_n hx hb dX2_goOn_28 rfl (lv_at hl 2 rfl) ?_
          refine va_get (C := RX0) (T := TX0) (N := 4) (ci := 0) hx hb hts hi_X0 hown hK hP (2 * j + 20 + 4) (hW_par hj) rfl 2 (by decide) (hts (.fieldLink RX2 69 "GroupSeats$Party" "size" "I") (by decide +kernel)) (fun _ h9 => h9) rfl dX2_goOn_29 ?_
          refine lv_icmp_ge (tgt := 39) hx hb dX2_goOn_32 (by decide) (fun c32 => ?_) (fun c32 => ?_)
          · refine lv_iconst (v := 0) hx hb dX2_goOn_39 (by decide) ?_
            refine lv_istore (lv' := [(5, .int _), (4, .int _), (0, .ref _), (1, .ref _), (2, .int _), (3, .int _)]) hx hb dX2_goOn_40 hl (by decide) rfl (fun ls hl => ?_)
            refine lv_iload hx hb dX2_goOn_42 (lv_at hl 0 rfl) ?_
            refine lv_if_eq (tgt := 51) hx hb dX2_goOn_44 (by decide) (fun c44 => ?_) (fun c44 => ?_)
            · refine lv_iload hx hb dX2_goOn_51 (lv_at hl 1 rfl) ?_
              exact g_iret hx hb hr hlocks (Nat.le_of_ble_eq_true rfl) (Nat.le_of_ble_eq_true rfl) hK hP hD hS dX2_goOn_53 (by rw [goA_stop hw0 c16]; rw [if_neg (fun h => by rw [hn] at c32; have := (nI_leI (by omega) (by omega)).mp c32; omega)]; exact gPo_same)
            · exact absurd rfl c44
          · refine lv_iconst (v := 1) hx hb dX2_goOn_35 (by decide) ?_
            refine lv_goto (tgt := 40) hx hb dX2_goOn_36 (by decide) ?_
            refine lv_istore (lv' := [(5, .int _), (4, .int _), (0, .ref _), (1, .ref _), (2, .int _), (3, .int _)]) hx hb dX2_goOn_40 hl (by decide) rfl (fun ls hl => ?_)
            refine lv_iload hx hb dX2_goOn_42 (lv_at hl 0 rfl) ?_
            refine lv_if_eq (tgt := 51) hx hb dX2_goOn_44 (by decide) (fun c44 => ?_) (fun c44 => ?_)
            · exact absurd c44 (by decide)
            · refine lv_iconst (v := 0) hx hb dX2_goOn_47 (by decide) ?_
              refine lv_goto (tgt := 53) hx hb dX2_goOn_48 (by decide) ?_
              exact g_iret hx hb hr hlocks (Nat.le_of_ble_eq_true rfl) (Nat.le_of_ble_eq_true rfl) hK hP hD hS dX2_goOn_53 (by rw [goA_stop hw0 c16]; rw [if_pos ⟨hmo.symm.trans c24, Nat.lt_of_not_le (fun q => c32 (by rw [hn]; exact nI_le q (by omega)))⟩]; exact gPo_same)
    · refine lv_iconst (v := 0) hx hb dX2_goOn_4 (by decide) ?_
      exact g_iret hx hb hr hlocks (Nat.le_of_ble_eq_true rfl) (Nat.le_of_ble_eq_true rfl) hK hP hD hS dX2_goOn_5 (by have hw0 : w = 0 := Classical.not_not.mp (fun q => c1 (by rw [show (0 : Int32) = nI 0 from rfl]; exact nI_lt (by omega) (by omega))); subst hw0; rw [goA_done]; exact gPo_same)
  | cons r rs ih =>
    intro p0 w mh ho bk ow sz e0 hp6 hw60 hmh
    refine g_of (cc := cX2_goOn) (maxL := 8) (ret := some .int) (Qc := fun A => va_Qi (gPo K a z sd pl pn pm nm cn co qu B wt fl ow (goA z sd (nI B) n mo (r :: rs) w p0 ow mh)) (gB D vwCl (gT K) A) A) (by decide) rfl (Nat.le_of_ble_eq_true rfl) ?_
    intro p e s m below meth c A ls I hl
    have I0 := I
    obtain ⟨hx, hb, hr, hml, hown, hts, hlocks, hnm, hA, hK, hP, hD, hS⟩ := I
    have hown : s.vm.findClass RX2 = some m.cls := hown
    have hl : lv_has ls 8 [(0, .ref (a 0 0)), (1, .ref (a 3 j)), (2, .int (nI p0)), (3, .int (nI w))] := hl
    have hi_X2 : ∀ w ∈ u_ws RX2 TX2 8, w ∈ wsX2_goOn := by decide +kernel
    have hi_X1 : ∀ w ∈ u_ws RX1 TX1 5, w ∈ wsX2_goOn := by decide +kernel
    have hi_X0 : ∀ w ∈ u_ws RX0 TX0 4, w ∈ wsX2_goOn := by decide +kernel
    refine lv_iload_n hx hb dX2_goOn_0 rfl (lv_at hl 3 rfl) ?_
    refine lv_if_gt (tgt := 6) hx hb dX2_goOn_1 (by decide) (fun c1 => ?_) (fun c1 => ?_)
    · have hw0 : w ≠ 0 := fun q => absurd c1 (by rw [q]; decide)
      refine lv_aload_n hx hb dX2_goOn_6 rfl (lv_at hl 0 rfl) ?_
      refine lv_aload_n hx hb dX2_goOn_7 rfl (lv_at hl 1 rfl) ?_
      refine lv_iload_n hx hb dX2_goOn_8 rfl (lv_at hl 2 rfl) ?_
      refine g_calli (va_runV (As := [.ref _, .int _]) (rest := []) ⟨hx, hb, hml, hown, hts⟩ (c_obstacleAt l D K a z sd ho bk ow pl pn pm nm cn co qu B wt mh fl j p0 L _ hj hp6 hz hlen hL) (cwV 2 hts gX2_goOn_X2_obstacleAt rfl rfl rfl (by decide +kernel) ⟨by show 1 + 1 ≤ rs.length + 1 + 3; omega, by show 8 + (4 + 11) + 40 ≤ 100 + 30 * (rs.length + 1); omega⟩) (g_preV hK hP hD (ci := 2) (q0 := 0) rfl (rfl)) rfl rfl hl.1 rfl (lv_room (Nat.le_of_ble_eq_true rfl)) dX2_goOn_9 ⟨Nat.zero_le _, Nat.zero_le _⟩) hD hS hA (fun r9 wv H locs hw hP hD hS => ?_)
      obtain ⟨ew, er⟩ := hw
      rw [ew] at hP hD
      rw [e0] at er
      subst er
      refine lv_istore (lv' := [(4, .int _), (0, .ref _), (1, .ref _), (2, .int _), (3, .int _)]) hx hb dX2_goOn_12 hl (by decide) rfl (fun ls hl => ?_)
      refine lv_iload hx hb dX2_goOn_14 (lv_at hl 0 rfl) ?_
      refine lv_if_eq (tgt := 54) hx hb dX2_goOn_16 (by decide) (fun c16 => ?_) (fun c16 => ?_)
      · have hr10 : r < 10 := by obtain ⟨r1, rs1, e1, e2, e3⟩ := obs_ne c16; injection e1 with e4 e5; omega
        obtain ⟨hp1, hp2, hp3, hp4⟩ := isL_drop hL e0
        refine lv_aload_n hx hb dX2_goOn_54 rfl (lv_at hl 1 rfl) ?_
        refine va_get (C := RX2) (T := TX2) (N := 8) (ci := 2) hx hb hts hi_X2 hown hK hP (0) (rfl) rfl 0 (by decide) (hts (.fieldLink RX2 11 "GroupSeats" "rows" "[LGroupSeats$Row;") (by decide +kernel)) (fun _ h9 => h9) rfl dX2_goOn_55 ?_
        refine lv_aload_n hx hb dX2_goOn_58 rfl (lv_at hl 2 rfl) ?_
        refine va_get (C := RX0) (T := TX0) (N := 4) (ci := 0) hx hb hts hi_X0 hown hK hP (2 * j + 20 + 4) (hW_par hj) rfl 0 (by decide) (hts (.fieldLink RX2 62 "GroupSeats$Party" "numbers" "[I") (by decide +kernel)) (fun _ h9 => h9) rfl dX2_goOn_59 ?_
        refine lv_iload_n hx hb dX2_goOn_62 rfl (lv_at hl 3 rfl) ?_
        refine va_iald hx hb hK hP (2 * j + 1 + 20 + 4) 0 (hW_num hj) rfl (vp_in_nI (show p0 < 6 by omega) (by decide)) dX2_goOn_63 ?_
        rw [nI_clamp (by omega), hp2]
        refine g_aldq hx hb hK hP (1) 2 (rfl) rfl (vp_in_nI hr10 (by decide)) (gRf_at hr10 (by decide)) dX2_goOn_64 ?_
        refine lv_astore (lv' := [(5, .ref _), (4, .int _), (0, .ref _), (1, .ref _), (2, .int _), (3, .int _)]) hx hb dX2_goOn_65 hl (by decide) rfl (fun ls hl => ?_)
        refine lv_aload hx hb dX2_goOn_67 (lv_at hl 0 rfl) ?_
        refine lv_dup hx hb dX2_goOn_69 rfl ?_
        refine va_get (C := RX1) (T := TX1) (N := 5) (ci := 1) hx hb hts hi_X1 hown hK hP (2 * r + 4) (hW_row hr10) rfl 3 (by decide) (hts (.fieldLink RX2 95 "GroupSeats$Row" "holds" "I") (by decide +kernel)) (fun _ h9 => h9) rfl dX2_goOn_70 ?_
        refine lv_iconst (v := 1) hx hb dX2_goOn_73 (by decide) ?_
        refine lv_iadd hx hb dX2_goOn_74 ?_
        refine va_put (C := RX1) (T := TX1) (N := 5) (ci := 1) (ty := .int) hx hb hts hi_X1 tyX1 tyX1_ok nmX1 hown hK hP hD hS (2 * r + 4) (hW_row hr10) rfl 3 (by decide) (hts (.fieldLink RX2 95 "GroupSeats$Row" "holds" "I") (by decide +kernel)) (fun _ h9 => h9) rfl (by decide +kernel) rfl rfl (Nat.le_of_ble_eq_true rfl) dX2_goOn_75 (fun H locs hP hD hS => ?_)
        have hP : va_P D vwCl ((hW K a z sd ho bk ow pl pn pm nm cn co qu (nI B) (nI wt) (nI mh) fl).set (2 * r + 4) (a 1 r, gRow (a 2 r) (nI (z r)) (sd r) (ho r + 1) (bk r))) H := hP
        have hD : va_D A ((hW K a z sd ho bk ow pl pn pm nm cn co qu (nI B) (nI wt) (nI mh) fl).set (2 * r + 4) (a 1 r, gRow (a 2 r) (nI (z r)) (sd r) (ho r + 1) (bk r))) := hD
        rw [hW_setHo hr10] at hP hD
        refine lv_aload_n hx hb dX2_goOn_78 rfl (lv_at hl 2 rfl) ?_
        refine lv_aload_n hx hb dX2_goOn_79 rfl (lv_at hl 2 rfl) ?_
        refine va_get (C := RX2) (T := TX2) (N := 8) (ci := 2) hx hb hts hi_X2 hown hK hP (0) (rfl) rfl 6 (by decide) (hts (.fieldLink RX2 101 "GroupSeats" "mostHeld" "I") (by decide +kernel)) (fun _ h9 => h9) rfl dX2_goOn_80 ?_
        refine lv_iload_n hx hb dX2_goOn_83 rfl (lv_at hl 4 rfl) ?_
        refine lv_iconst (v := 1) hx hb dX2_goOn_84 (by decide) ?_
        refine lv_iadd hx hb dX2_goOn_85 ?_
        refine va_mmax hx hb (hml.trans hl.1.symm) hown (hts (.methodLink RX2 118 Lib.Math.max.name) (by decide +kernel)) (hts (.static Lib.Math.max.name) (by decide +kernel)) (hts (.initialized "java/lang/Math") (by decide +kernel)) (hts _ (List.mem_cons_of_mem _ (List.mem_append_left _ (List.mem_append_left _ (List.mem_append_left _ (List.mem_append_left _ (List.mem_of_getElem? (l := wsX2_goOn_r1) (i := 9) rfl))))))) (by show 1 ≤ rs.length + 1 + 3; omega) (by show (1 : Nat) + 13 ≤ 100 + 30 * (rs.length + 1); omega) (Nat.zero_le _) (Nat.zero_le _) dX2_goOn_86 ?_
        rw [nI_1, g_max (by omega) (by omega)]
        refine va_put (C := RX2) (T := TX2) (N := 8) (ci := 2) (ty := .int) hx hb hts hi_X2 tyX2 tyX2_ok nmX2 hown hK hP hD hS (0) (rfl) rfl 6 (by decide) (hts (.fieldLink RX2 101 "GroupSeats" "mostHeld" "I") (by decide +kernel)) (fun _ h9 => h9) rfl (by decide +kernel) rfl rfl (Nat.le_of_ble_eq_true rfl) dX2_goOn_89 (fun H locs hP hD hS => ?_)
        have hP : va_P D vwCl (hW K a z sd (va_up ho r (ho r + 1)) bk ow pl pn pm nm cn co qu (nI B) (nI wt) (nI (max mh (p0 + 1))) fl) H := hP
        have hD : va_D A (hW K a z sd (va_up ho r (ho r + 1)) bk ow pl pn pm nm cn co qu (nI B) (nI wt) (nI (max mh (p0 + 1))) fl) := hD
        refine lv_aload hx hb dX2_goOn_92 (lv_at hl 0 rfl) ?_
        refine lv_iload_n hx hb dX2_goOn_94 rfl (lv_at hl 5 rfl) ?_
        refine lv_aload_n hx hb dX2_goOn_95 rfl (lv_at hl 2 rfl) ?_
        refine va_get (C := RX2) (T := TX2) (N := 8) (ci := 2) hx hb hts hi_X2 hown hK hP (0) (rfl) rfl 4 (by decide) (hts (.fieldLink RX2 66 "GroupSeats" "bookings" "I") (by decide +kernel)) (fun _ h9 => h9) rfl dX2_goOn_96 ?_
        refine g_calli (va_runV (As := [.int _, .int _]) (rest := []) ⟨hx, hb, hml, hown, hts⟩ (c_take l D K _ (a 1 r) (a 2 r) (2 * r + 4) (2 * r + 1 + 4) (z r) (sd r) (va_up ho r (ho r + 1) r) (bk r) (ow r) w (nI B) _ (by omega) (by omega) (hz r hr10) (hW_row hr10) (hW_own hr10)) (cwV 2 hts gX2_goOn_X1_take rfl rfl rfl (by decide +kernel) ⟨by show 1 + 1 ≤ rs.length + 1 + 3; omega, by show 8 + (7 + 11) + 40 ≤ 100 + 30 * (rs.length + 1); omega⟩) (g_preV hK hP hD (ci := 1) (q0 := 2 * r + 4) rfl (hW_row hr10)) rfl rfl hl.1 rfl (lv_room (Nat.le_of_ble_eq_true rfl)) dX2_goOn_99 ⟨Nat.zero_le _, Nat.zero_le _⟩) hD hS hA (fun r99 wv H locs hw hP hD hS => ?_)
        obtain ⟨ew, er⟩ := hw
        rw [ew, hW_setOwn hr10] at hP hD
        subst er
        refine lv_istore (lv' := [(6, .int _), (5, .ref _), (4, .int _), (0, .ref _), (1, .ref _), (2, .int _), (3, .int _)]) hx hb dX2_goOn_102 hl (by decide) rfl (fun ls hl => ?_)
        refine lv_aload_n hx hb dX2_goOn_104 rfl (lv_at hl 3 rfl) ?_
        refine lv_aload_n hx hb dX2_goOn_105 rfl (lv_at hl 4 rfl) ?_
        refine lv_iload_n hx hb dX2_goOn_106 rfl (lv_at hl 5 rfl) ?_
        refine lv_iconst (v := 1) hx hb dX2_goOn_107 (by decide) ?_
        refine lv_iadd hx hb dX2_goOn_108 ?_
        refine lv_iload_n hx hb dX2_goOn_109 rfl (lv_at hl 6 rfl) ?_
        refine lv_iload hx hb dX2_goOn_110 (lv_at hl 0 rfl) ?_
        refine g_calli (va_runS (As := [.int _]) (rest := [.int _, .int _, .ref _, .ref _]) ⟨hx, hb, hml, hown, hts⟩ (c_bitCount l D K _ _ _ (tk_lt (hz r hr10))) (va_cwS 1 hts gX2_goOn_J6_bitCount_0f7a4 rfl rfl rfl (by decide +kernel) ⟨by show 0 + 1 ≤ rs.length + 1 + 3; omega, by show 8 + (1 + 11) + 0 ≤ 100 + 30 * (rs.length + 1); omega⟩) (g_preS hK hP hD) rfl rfl hl.1 rfl (lv_room (Nat.le_of_ble_eq_true rfl)) dX2_goOn_112 ⟨Nat.zero_le _, Nat.zero_le _⟩) hD hS hA (fun r112 wv H locs hw hP hD hS => ?_)
        obtain ⟨ew, er⟩ := hw
        rw [ew] at hP hD
        rw [tk_pc (hz r hr10)] at er
        subst er
        refine lv_isub hx hb dX2_goOn_115 ?_
        rw [nI_1, pk_sub (tkC_le (ow r) (z r) (sd r) w)]
        refine g_calli (va_runV (As := [.ref _, .int _, .int _]) (rest := []) ⟨hx, hb, hml, hown, hts⟩ (ih (p0 + 1) (w - tkC (ow r) (z r) (sd r) w) (max mh (p0 + 1)) (va_up ho r (ho r + 1)) bk (va_up ow r (tkF (nI B) (ow r) (z r) (sd r) w)) _ hp3 (by omega) (by omega) (by omega)) (cwV 3 hts gX2_goOn_X2_goOn rfl rfl rfl (by decide +kernel) ⟨by show rs.length + 3 + 1 ≤ rs.length + 1 + 3; omega, by show 8 + (8 + 11) + (100 + 30 * rs.length) ≤ 100 + 30 * (rs.length + 1); omega⟩) (g_preV hK hP hD (ci := 2) (q0 := 0) rfl (rfl)) rfl rfl hl.1 rfl (lv_room (Nat.le_of_ble_eq_true rfl)) dX2_goOn_116 ⟨Nat.zero_le _, Nat.zero_le _⟩) hD hS hA (fun r116 wv H locs hw hP hD hS => ?_)
        obtain ⟨er2, ho2, bk2, ew⟩ := hw
        rw [ew] at hP hD
        refine lv_istore (lv' := [(7, .int _), (6, .int _), (5, .ref _), (4, .int _), (0, .ref _), (1, .ref _), (2, .int _), (3, .int _)]) hx hb dX2_goOn_119 hl (by decide) rfl (fun ls hl => ?_)
        refine lv_iload hx hb dX2_goOn_121 (lv_at hl 0 rfl) ?_
        refine lv_if_eq (tgt := 133) hx hb dX2_goOn_123 (by decide) (fun c123 => ?_) (fun c123 => ?_)
        · refine lv_iload hx hb dX2_goOn_133 (lv_at hl 0 rfl) ?_
          exact g_iret hx hb hr hlocks (Nat.le_of_ble_eq_true rfl) (Nat.le_of_ble_eq_true rfl) hK hP hD hS dX2_goOn_135 (by rw [goA_step hw0 c16]; rw [er2] at c123; exact ⟨er2, ho2, bk2, by rw [if_pos c123, if_pos c123]⟩)
        · rw [er2] at c123
          rw [if_neg c123] at hP hD
          refine lv_aload hx hb dX2_goOn_126 (lv_at hl 2 rfl) ?_
          refine lv_iload hx hb dX2_goOn_128 (lv_at hl 1 rfl) ?_
          refine g_callv (va_runV (As := [.int _]) (rest := []) ⟨hx, hb, hml, hown, hts⟩ (c_giveBack l D K _ (a 1 r) (a 2 r) (2 * r + 4) (2 * r + 1 + 4) (z r) (sd r) (ho2 r) (bk2 r) (va_up ow r (tkF (nI B) (ow r) (z r) (sd r) w) r) _ _ (by omega) (tk_lt (hz r hr10)) (hz r hr10) (hW_row hr10) (hW_own hr10)) (cwV 1 hts gX2_goOn_X1_giveBack rfl rfl rfl (by decide +kernel) ⟨by show 0 + 1 ≤ rs.length + 1 + 3; omega, by show 8 + (3 + 11) + 0 ≤ 100 + 30 * (rs.length + 1); omega⟩) (g_preV hK hP hD (ci := 1) (q0 := 2 * r + 4) rfl (hW_row hr10)) rfl rfl hl.1 rfl (lv_room (Nat.le_of_ble_eq_true rfl)) dX2_goOn_130 ⟨Nat.zero_le _, Nat.zero_le _⟩) hD hS hA (fun wv H locs hw hP hD hS => ?_)
          rw [hw, hW_setBk hr10, hW_setOwn hr10, va_up_self, gb_back hb8, va_up_uu, va_up_id] at hP hD
          refine lv_iload hx hb dX2_goOn_133 (lv_at hl 0 rfl) ?_
          exact g_iret hx hb hr hlocks (Nat.le_of_ble_eq_true rfl) (Nat.le_of_ble_eq_true rfl) hK hP hD hS dX2_goOn_135 (by rw [goA_step hw0 c16]; exact ⟨er2, ho2, _, by rw [if_neg c123]⟩)
      · refine lv_aload_n hx hb dX2_goOn_19 rfl (lv_at hl 2 rfl) ?_
        refine va_get (C := RX0) (T := TX0) (N := 4) (ci := 0) hx hb hts hi_X0 hown hK hP (2 * j + 20 + 4) (hW_par hj) rfl 3 (by decide) (hts (.fieldLink RX2 70 "GroupSeats$Party" "mode" "I") (by decide +kernel)) (fun _ h9 => h9) rfl dX2_goOn_20 ?_
        refine lv_iconst (v := 1) hx hb dX2_goOn_23 (by decide) ?_
        refine lv_icmp_ne (tgt := 39) hx hb dX2_goOn_24 (by decide) (fun c24 => ?_) (fun c24 => ?_)
        · refine lv_iconst (v := 0) hx hb dX2_goOn_39 (by decide) ?_
          refine lv_istore (lv' := [(5, .int _), (4, .int _), (0, .ref _), (1, .ref _), (2, .int _), (3, .int _)]) hx hb dX2_goOn_40 hl (by decide) rfl (fun ls hl => ?_)
          refine lv_iload hx hb dX2_goOn_42 (lv_at hl 0 rfl) ?_
          refine lv_if_eq (tgt := 51) hx hb dX2_goOn_44 (by decide) (fun c44 => ?_) (fun c44 => ?_)
          · refine lv_iload hx hb dX2_goOn_51 (lv_at hl 1 rfl) ?_
            exact g_iret hx hb hr hlocks (Nat.le_of_ble_eq_true rfl) (Nat.le_of_ble_eq_true rfl) hK hP hD hS dX2_goOn_53 (by rw [goA_stop hw0 c16]; rw [if_neg (fun h => c24 (hmo.trans h.1))]; exact gPo_same)
          · exact absurd rfl c44
        · refine lv_iload_n hx hb dX2_goOn_27 rfl (lv_at hl 4 rfl) ?_
          refine lv_aload_n hx hb dX2_goOn_28 rfl (lv_at hl 2 rfl) ?_
          refine va_get (C := RX0) (T := TX0) (N := 4) (ci := 0) hx hb hts hi_X0 hown hK hP (2 * j + 20 + 4) (hW_par hj) rfl 2 (by decide) (hts (.fieldLink RX2 69 "GroupSeats$Party" "size" "I") (by decide +kernel)) (fun _ h9 => h9) rfl dX2_goOn_29 ?_
          refine lv_icmp_ge (tgt := 39) hx hb dX2_goOn_32 (by decide) (fun c32 => ?_) (fun c32 => ?_)
          · refine lv_iconst (v := 0) hx hb dX2_goOn_39 (by decide) ?_
            refine lv_istore (lv' := [(5, .int _), (4, .int _), (0, .ref _), (1, .ref _), (2, .int _), (3, .int _)]) hx hb dX2_goOn_40 hl (by decide) rfl (fun ls hl => ?_)
            refine lv_iload hx hb dX2_goOn_42 (lv_at hl 0 rfl) ?_
            refine lv_if_eq (tgt := 51) hx hb dX2_goOn_44 (by decide) (fun c44 => ?_) (fun c44 => ?_)
            · refine lv_iload hx hb dX2_goOn_51 (lv_at hl 1 rfl) ?_
              exact g_iret hx hb hr hlocks (Nat.le_of_ble_eq_true rfl) (Nat.le_of_ble_eq_true rfl) hK hP hD hS dX2_goOn_53 (by rw [goA_stop hw0 c16]; rw [if_neg (fun h => by rw [hn] at c32; have := (nI_leI (by omega) (by omega)).mp c32; omega)]; exact gPo_same)
            · exact absurd rfl c44
          · refine lv_iconst (v := 1) hx hb dX2_goOn_35 (by decide) ?_
            refine lv_goto (tgt := 40) hx hb dX2_goOn_36 (by decide) ?_
            refine lv_istore (lv' := [(5, .int _), (4, .int _), (0, .ref _), (1, .ref _), (2, .int _), (3, .int _)]) hx hb dX2_goOn_40 hl (by decide) rfl (fun ls hl => ?_)
            refine lv_iload hx hb dX2_goOn_42 (lv_at hl 0 rfl) ?_
            refine lv_if_eq (tgt := 51) hx hb dX2_goOn_44 (by decide) (fun c44 => ?_) (fun c44 => ?_)
            · exact absurd c44 (by decide)
            · refine lv_iconst (v := 0) hx hb dX2_goOn_47 (by decide) ?_
              refine lv_goto (tgt := 53) hx hb dX2_goOn_48 (by decide) ?_
              exact g_iret hx hb hr hlocks (Nat.le_of_ble_eq_true rfl) (Nat.le_of_ble_eq_true rfl) hK hP hD hS dX2_goOn_53 (by rw [goA_stop hw0 c16]; rw [if_pos ⟨hmo.symm.trans c24, Nat.lt_of_not_le (fun q => c32 (by rw [hn]; exact nI_le q (by omega)))⟩]; exact gPo_same)
    · refine lv_iconst (v := 0) hx hb dX2_goOn_4 (by decide) ?_
      exact g_iret hx hb hr hlocks (Nat.le_of_ble_eq_true rfl) (Nat.le_of_ble_eq_true rfl) hK hP hD hS dX2_goOn_5 (by have hw0 : w = 0 := Classical.not_not.mp (fun q => c1 (by rw [show (0 : Int32) = nI 0 from rfl]; exact nI_lt (by omega) (by omega))); subst hw0; rw [goA_done]; exact gPo_same)
