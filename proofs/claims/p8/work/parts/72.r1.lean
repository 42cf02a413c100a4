abbrev rm_Reader_kindOf : Room := { frames := 0, cells := 0, slots := 0, locals := 0 }
set_option maxHeartbeats 4000000 in
set_option maxRecDepth 100000 in
theorem c_Reader_kindOf (l : Launch) (D : va_G) (ct : Nat → ClassId) (p1 : Int32) : cP l yX4_kindOf wsX4_kindOf rm_Reader_kindOf D ct [] [.int p1] (fun r : Int32 => r.toInt = (ux_kb p1 : Int)) := by
  refine cP_of (cc := cX4_kindOf) (maxL := 1) (by decide) rfl (Nat.le_of_ble_eq_true rfl) ?_
  intro p e s m args below meth c Q hx hb hml hts hown hK hP hE ls hl
  have hl : lv_has ls 1 [(0, .int p1)] := hl
  refine lv_iload_n hx hb dX4_kindOf_0 rfl (lv_at hl 0 rfl) ?_
  by_cases c1 : p1 = (10 : Int32)
  ·
    have t2 : p1.toInt = 10 := by rw [c1]; rfl
    refine lv_lookup (tgt := 100) (off := 99) hx hb dX4_kindOf_1 (by decide) (by rw [t2]; rfl) (by decide) ?_
    have j3 : iv p1 10 10 := by rw [c1]; exact (iv_lit (10 : Int32) (by decide))
    refine lv_iconst (v := 3) hx hb dX4_kindOf_100 (by decide) ?_
    exact hE _ _ _ (show (3 : Int32).toInt = (ux_kb p1 : Int) from (ux_kb_of (by have : (3 : Int32).toInt = 3 := rfl; have := (j3).1; have := (j3).2; omega))) dX4_kindOf_101
  by_cases c4 : p1 = (32 : Int32)
  ·
    have t5 : p1.toInt = 32 := by rw [c4]; rfl
    refine lv_lookup (tgt := 100) (off := 99) hx hb dX4_kindOf_1 (by decide) (by rw [t5]; rfl) (by decide) ?_
    have j6 : iv p1 32 32 := by rw [c4]; exact (iv_lit (32 : Int32) (by decide))
    refine lv_iconst (v := 3) hx hb dX4_kindOf_100 (by decide) ?_
    exact hE _ _ _ (show (3 : Int32).toInt = (ux_kb p1 : Int) from (ux_kb_of (by have : (3 : Int32).toInt = 3 := rfl; have := (j6).1; have := (j6).2; omega))) dX4_kindOf_101
  by_cases c7 : p1 = (40 : Int32)
  ·
    have t8 : p1.toInt = 40 := by rw [c7]; rfl
    refine lv_lookup (tgt := 102) (off := 101) hx hb dX4_kindOf_1 (by decide) (by rw [t8]; rfl) (by decide) ?_
    have j9 : iv p1 40 40 := by rw [c7]; exact (iv_lit (40 : Int32) (by decide))
    refine lv_iload_n hx hb dX4_kindOf_102 rfl (lv_at hl 0 rfl) ?_
    exact hE _ _ _ (show p1.toInt = (ux_kb p1 : Int) from (ux_kb_of (by have := (j9).1; have := (j9).2; omega))) dX4_kindOf_103
  by_cases c10 : p1 = (41 : Int32)
  ·
    have t11 : p1.toInt = 41 := by rw [c10]; rfl
    refine lv_lookup (tgt := 102) (off := 101) hx hb dX4_kindOf_1 (by decide) (by rw [t11]; rfl) (by decide) ?_
    have j12 : iv p1 41 41 := by rw [c10]; exact (iv_lit (41 : Int32) (by decide))
    refine lv_iload_n hx hb dX4_kindOf_102 rfl (lv_at hl 0 rfl) ?_
    exact hE _ _ _ (show p1.toInt = (ux_kb p1 : Int) from (ux_kb_of (by have := (j12).1; have := (j12).2; omega))) dX4_kindOf_103
  by_cases c13 : p1 = (42 : Int32)
  ·
    have t14 : p1.toInt = 42 := by rw [c13]; rfl
    refine lv_lookup (tgt := 102) (off := 101) hx hb dX4_kindOf_1 (by decide) (by rw [t14]; rfl) (by decide) ?_
    have j15 : iv p1 42 42 := by rw [c13]; exact (iv_lit (42 : Int32) (by decide))
    refine lv_iload_n hx hb dX4_kindOf_102 rfl (lv_at hl 0 rfl) ?_
    exact hE _ _ _ (show p1.toInt = (ux_kb p1 : Int) from (ux_kb_of (by have := (j15).1; have := (j15).2; omega))) dX4_kindOf_103
  by_cases c16 : p1 = (43 : Int32)
  ·
    have t17 : p1.toInt = 43 := by rw [c16]; rfl
    refine lv_lookup (tgt := 102) (off := 101) hx hb dX4_kindOf_1 (by decide) (by rw [t17]; rfl) (by decide) ?_
    have j18 : iv p1 43 43 := by rw [c16]; exact (iv_lit (43 : Int32) (by decide))
    refine lv_iload_n hx hb dX4_kindOf_102 rfl (lv_at hl 0 rfl) ?_
    exact hE _ _ _ (show p1.toInt = (ux_kb p1 : Int) from (ux_kb_of (by have := (j18).1; have := (j18).2; omega))) dX4_kindOf_103
  by_cases c19 : p1 = (45 : Int32)
  ·
    have t20 : p1.toInt = 45 := by rw [c19]; rfl
    refine lv_lookup (tgt := 102) (off := 101) hx hb dX4_kindOf_1 (by decide) (by rw [t20]; rfl) (by decide) ?_
    have j21 : iv p1 45 45 := by rw [c19]; exact (iv_lit (45 : Int32) (by decide))
    refine lv_iload_n hx hb dX4_kindOf_102 rfl (lv_at hl 0 rfl) ?_
    exact hE _ _ _ (show p1.toInt = (ux_kb p1 : Int) from (ux_kb_of (by have := (j21).1; have := (j21).2; omega))) dX4_kindOf_103
  by_cases c22 : p1 = (47 : Int32)
  ·
    have t23 : p1.toInt = 47 := by rw [c22]; rfl
    refine lv_lookup (tgt := 102) (off := 101) hx hb dX4_kindOf_1 (by decide) (by rw [t23]; rfl) (by decide) ?_
    have j24 : iv p1 47 47 := by rw [c22]; exact (iv_lit (47 : Int32) (by decide))
    refine lv_iload_n hx hb dX4_kindOf_102 rfl (lv_at hl 0 rfl) ?_
    exact hE _ _ _ (show p1.toInt = (ux_kb p1 : Int) from (ux_kb_of (by have := (j24).1; have := (j24).2; omega))) dX4_kindOf_103
  by_cases c25 : p1 = (59 : Int32)
  ·
    have t26 : p1.toInt = 59 := by rw [c25]; rfl
    refine lv_lookup (tgt := 102) (off := 101) hx hb dX4_kindOf_1 (by decide) (by rw [t26]; rfl) (by decide) ?_
    have j27 : iv p1 59 59 := by rw [c25]; exact (iv_lit (59 : Int32) (by decide))
    refine lv_iload_n hx hb dX4_kindOf_102 rfl (lv_at hl 0 rfl) ?_
    exact hE _ _ _ (show p1.toInt = (ux_kb p1 : Int) from (ux_kb_of (by have := (j27).1; have := (j27).2; omega))) dX4_kindOf_103
  by_cases c28 : p1 = (60 : Int32)
  ·
    have t29 : p1.toInt = 60 := by rw [c28]; rfl
    refine lv_lookup (tgt := 102) (off := 101) hx hb dX4_kindOf_1 (by decide) (by rw [t29]; rfl) (by decide) ?_
    have j30 : iv p1 60 60 := by rw [c28]; exact (iv_lit (60 : Int32) (by decide))
    refine lv_iload_n hx hb dX4_kindOf_102 rfl (lv_at hl 0 rfl) ?_
    exact hE _ _ _ (show p1.toInt = (ux_kb p1 : Int) from (ux_kb_of (by have := (j30).1; have := (j30).2; omega))) dX4_kindOf_103
  by_cases c31 : p1 = (61 : Int32)
  ·
    have t32 : p1.toInt = 61 := by rw [c31]; rfl
    refine lv_lookup (tgt := 102) (off := 101) hx hb dX4_kindOf_1 (by decide) (by rw [t32]; rfl) (by decide) ?_
    have j33 : iv p1 61 61 := by rw [c31]; exact (iv_lit (61 : Int32) (by decide))
    refine lv_iload_n hx hb dX4_kindOf_102 rfl (lv_at hl 0 rfl) ?_
    exact hE _ _ _ (show p1.toInt = (ux_kb p1 : Int) from (ux_kb_of (by have := (j33).1; have := (j33).2; omega))) dX4_kindOf_103
  refine lv_lookup (tgt := 104) (off := 103) hx hb dX4_kindOf_1 (by decide) (by show Op.lookupswitch.offset [(10, 99), (32, 99), (40, 101), (41, 101), (42, 101), (43, 101), (45, 101), (47, 101), (59, 101), (60, 101), (61, 101)] 103 p1.toInt = 103; rw [lv_osw (a := 10) c1 rfl]; rw [lv_osw (a := 32) c4 rfl]; rw [lv_osw (a := 40) c7 rfl]; rw [lv_osw (a := 41) c10 rfl]; rw [lv_osw (a := 42) c13 rfl]; rw [lv_osw (a := 43) c16 rfl]; rw [lv_osw (a := 45) c19 rfl]; rw [lv_osw (a := 47) c22 rfl]; rw [lv_osw (a := 59) c25 rfl]; rw [lv_osw (a := 60) c28 rfl]; rw [lv_osw (a := 61) c31 rfl]; rfl) (by decide) ?_
  refine lv_iload_n hx hb dX4_kindOf_104 rfl (lv_at hl 0 rfl) ?_
  refine lv_bipush (v := 97) hx hb dX4_kindOf_105 (by decide) ?_
  refine lv_icmp_lt (tgt := 118) hx hb dX4_kindOf_107 (by decide) (fun c34 => ?_) (fun c34 => ?_)
  ·
    have j35 : iv p1 (-2147483648) 96 := iv_ltL c34 (iv_any p1) (iv_lit (97 : Int32) (by decide) : iv (97 : Int32) 97 97) (by decide)
    refine lv_iload_n hx hb dX4_kindOf_118 rfl (lv_at hl 0 rfl) ?_
    refine lv_bipush (v := 48) hx hb dX4_kindOf_119 (by decide) ?_
    refine lv_icmp_lt (tgt := 134) hx hb dX4_kindOf_121 (by decide) (fun c36 => ?_) (fun c36 => ?_)
    ·
      have j37 : iv p1 (-2147483648) 47 := iv_ltL c36 j35 (iv_lit (48 : Int32) (by decide) : iv (48 : Int32) 48 48) (by decide)
      refine lv_iconst (v := 4) hx hb dX4_kindOf_134 (by decide) ?_
      exact hE _ _ _ (show (4 : Int32).toInt = (ux_kb p1 : Int) from (ux_kb_of (by have : (4 : Int32).toInt = 4 := rfl; have := (j37).1; have := (j37).2; have : (10 : Int32).toInt = 10 := rfl; have : (32 : Int32).toInt = 32 := rfl; have : (40 : Int32).toInt = 40 := rfl; have : (41 : Int32).toInt = 41 := rfl; have : (42 : Int32).toInt = 42 := rfl; have : (43 : Int32).toInt = 43 := rfl; have : (45 : Int32).toInt = 45 := rfl; have : (47 : Int32).toInt = 47 := rfl; have : (59 : Int32).toInt = 59 := rfl; have : (60 : Int32).toInt = 60 := rfl; have : (61 : Int32).toInt = 61 := rfl; have : (97 : Int32).toInt = 97 := rfl; have : (48 : Int32).toInt = 48 := rfl; have := ne_i c1; have := ne_i c4; have := ne_i c7; have := ne_i c10; have := ne_i c13; have := ne_i c16; have := ne_i c19; have := ne_i c22; have := ne_i c25; have := ne_i c28; have := ne_i c31; have := lt_i c34; have := lt_i c36; omega))) dX4_kindOf_135
    ·
      have j38 : iv p1 48 96 := iv_leR (iv_nlt c36) (iv_lit (48 : Int32) (by decide) : iv (48 : Int32) 48 48) j35 (by decide)
      refine lv_iload_n hx hb dX4_kindOf_124 rfl (lv_at hl 0 rfl) ?_
      refine lv_bipush (v := 57) hx hb dX4_kindOf_125 (by decide) ?_
      refine lv_icmp_gt (tgt := 134) hx hb dX4_kindOf_127 (by decide) (fun c39 => ?_) (fun c39 => ?_)
      ·
        have j40 : iv p1 58 96 := iv_ltR c39 (iv_lit (57 : Int32) (by decide) : iv (57 : Int32) 57 57) j38 (by decide)
        refine lv_iconst (v := 4) hx hb dX4_kindOf_134 (by decide) ?_
        exact hE _ _ _ (show (4 : Int32).toInt = (ux_kb p1 : Int) from (ux_kb_of (by have : (4 : Int32).toInt = 4 := rfl; have := (j40).1; have := (j40).2; have : (10 : Int32).toInt = 10 := rfl; have : (32 : Int32).toInt = 32 := rfl; have : (40 : Int32).toInt = 40 := rfl; have : (41 : Int32).toInt = 41 := rfl; have : (42 : Int32).toInt = 42 := rfl; have : (43 : Int32).toInt = 43 := rfl; have : (45 : Int32).toInt = 45 := rfl; have : (47 : Int32).toInt = 47 := rfl; have : (59 : Int32).toInt = 59 := rfl; have : (60 : Int32).toInt = 60 := rfl; have : (61 : Int32).toInt = 61 := rfl; have : (97 : Int32).toInt = 97 := rfl; have : (48 : Int32).toInt = 48 := rfl; have : (57 : Int32).toInt = 57 := rfl; have := ne_i c1; have := ne_i c4; have := ne_i c7; have := ne_i c10; have := ne_i c13; have := ne_i c16; have := ne_i c19; have := ne_i c22; have := ne_i c25; have := ne_i c28; have := ne_i c31; have := lt_i c34; have := le_i (iv_nlt c36); have := lt_i c39; omega))) dX4_kindOf_135
      ·
        have j41 : iv p1 48 57 := iv_leL (iv_nlt c39) j38 (iv_lit (57 : Int32) (by decide) : iv (57 : Int32) 57 57) (by decide)
        refine lv_iconst (v := 2) hx hb dX4_kindOf_130 (by decide) ?_
        refine lv_goto (tgt := 135) hx hb dX4_kindOf_131 (by decide) ?_
        exact hE _ _ _ (show (2 : Int32).toInt = (ux_kb p1 : Int) from (ux_kb_of (by have : (2 : Int32).toInt = 2 := rfl; have := (j41).1; have := (j41).2; have : (10 : Int32).toInt = 10 := rfl; have : (32 : Int32).toInt = 32 := rfl; have : (40 : Int32).toInt = 40 := rfl; have : (41 : Int32).toInt = 41 := rfl; have : (42 : Int32).toInt = 42 := rfl; have : (43 : Int32).toInt = 43 := rfl; have : (45 : Int32).toInt = 45 := rfl; have : (47 : Int32).toInt = 47 := rfl; have : (59 : Int32).toInt = 59 := rfl; have : (60 : Int32).toInt = 60 := rfl; have : (61 : Int32).toInt = 61 := rfl; have : (97 : Int32).toInt = 97 := rfl; have : (48 : Int32).toInt = 48 := rfl; have : (57 : Int32).toInt = 57 := rfl; have := ne_i c1; have := ne_i c4; have := ne_i c7; have := ne_i c10; have := ne_i c13; have := ne_i c16; have := ne_i c19; have := ne_i c22; have := ne_i c25; have := ne_i c28; have := ne_i c31; have := lt_i c34; have := le_i (iv_nlt c36); have := le_i (iv_nlt c39); omega))) dX4_kindOf_135
  ·
    have j42 : iv p1 97 2147483647 := iv_leR (iv_nlt c34) (iv_lit (97 : Int32) (by decide) : iv (97 : Int32) 97 97) (iv_any p1) (by decide)
    refine lv_iload_n hx hb dX4_kindOf_110 rfl (lv_at hl 0 rfl) ?_
    refine lv_bipush (v := 122) hx hb dX4_kindOf_111 (by decide) ?_
    refine lv_icmp_gt (tgt := 118) hx hb dX4_kindOf_113 (by decide) (fun c43 => ?_) (fun c43 => ?_)
    ·
      have j44 : iv p1 123 2147483647 := iv_ltR c43 (iv_lit (122 : Int32) (by decide) : iv (122 : Int32) 122 122) j42 (by decide)
      refine lv_iload_n hx hb dX4_kindOf_118 rfl (lv_at hl 0 rfl) ?_
      refine lv_bipush (v := 48) hx hb dX4_kindOf_119 (by decide) ?_
      refine lv_icmp_lt (tgt := 134) hx hb dX4_kindOf_121 (by decide) (fun c45 => ?_) (fun c45 => ?_)
      ·
        exfalso; have z1 := lt_i c45; have z2 := (j44).1; have z3 := ((iv_lit (48 : Int32) (by decide) : iv (48 : Int32) 48 48)).2; omega
      ·
        refine lv_iload_n hx hb dX4_kindOf_124 rfl (lv_at hl 0 rfl) ?_
        refine lv_bipush (v := 57) hx hb dX4_kindOf_125 (by decide) ?_
        refine lv_icmp_gt (tgt := 134) hx hb dX4_kindOf_127 (by decide) (fun c46 => ?_) (fun c46 => ?_)
        ·
          refine lv_iconst (v := 4) hx hb dX4_kindOf_134 (by decide) ?_
          exact hE _ _ _ (show (4 : Int32).toInt = (ux_kb p1 : Int) from (ux_kb_of (by have : (4 : Int32).toInt = 4 := rfl; have := (j44).1; have := (j44).2; have : (10 : Int32).toInt = 10 := rfl; have : (32 : Int32).toInt = 32 := rfl; have : (40 : Int32).toInt = 40 := rfl; have : (41 : Int32).toInt = 41 := rfl; have : (42 : Int32).toInt = 42 := rfl; have : (43 : Int32).toInt = 43 := rfl; have : (45 : Int32).toInt = 45 := rfl; have : (47 : Int32).toInt = 47 := rfl; have : (59 : Int32).toInt = 59 := rfl; have : (60 : Int32).toInt = 60 := rfl; have : (61 : Int32).toInt = 61 := rfl; have : (97 : Int32).toInt = 97 := rfl; have : (122 : Int32).toInt = 122 := rfl; have : (48 : Int32).toInt = 48 := rfl; have : (57 : Int32).toInt = 57 := rfl; have := ne_i c1; have := ne_i c4; have := ne_i c7; have := ne_i c10; have := ne_i c13; have := ne_i c16; have := ne_i c19; have := ne_i c22; have := ne_i c25; have := ne_i c28; have := ne_i c31; have := le_i (iv_nlt c34); have := lt_i c43; have := le_i (iv_nlt c45); have := lt_i c46; omega))) dX4_kindOf_135
        ·
          exfalso; have z1 := le_i (iv_nlt c46); have z2 := (j44).1; have z3 := ((iv_lit (57 : Int32) (by decide) : iv (57 : Int32) 57 57)).2; omega
    ·
      have j47 : iv p1 97 122 := iv_leL (iv_nlt c43) j42 (iv_lit (122 : Int32) (by decide) : iv (122 : Int32) 122 122) (by decide)
      refine lv_iconst (v := 1) hx hb dX4_kindOf_116 (by decide) ?_
      exact hE _ _ _ (show (1 : Int32).toInt = (ux_kb p1 : Int) from (ux_kb_of (by have : (1 : Int32).toInt = 1 := rfl; have := (j47).1; have := (j47).2; have : (10 : Int32).toInt = 10 := rfl; have : (32 : Int32).toInt = 32 := rfl; have : (40 : Int32).toInt = 40 := rfl; have : (41 : Int32).toInt = 41 := rfl; have : (42 : Int32).toInt = 42 := rfl; have : (43 : Int32).toInt = 43 := rfl; have : (45 : Int32).toInt = 45 := rfl; have : (47 : Int32).toInt = 47 := rfl; have : (59 : Int32).toInt = 59 := rfl; have : (60 : Int32).toInt = 60 := rfl; have : (61 : Int32).toInt = 61 := rfl; have : (97 : Int32).toInt = 97 := rfl; have : (122 : Int32).toInt = 122 := rfl; have := ne_i c1; have := ne_i c4; have := ne_i c7; have := ne_i c10; have := ne_i c13; have := ne_i c16; have := ne_i c19; have := ne_i c22; have := ne_i c25; have := ne_i c28; have := ne_i c31; have := le_i (iv_nlt c34); have := le_i (iv_nlt c43); omega))) dX4_kindOf_117
abbrev rm_Reader_endOfRow : Room := { frames := 1, cells := 0, slots := 0, locals := 20 }
set_option maxHeartbeats 4000000 in
set_option maxRecDepth 100000 in
theorem c_Reader_endOfRow (l : Launch) (D : va_G) (ct : Nat → ClassId) (ad : Nat → Nat) (q_this q_this_text q_this_draft q_this_rule : Nat) (x_this_place x_this_length x_this_at x_this_kind x_this_start x_this_number x_this_found : Int32) (f_this_text : Nat → Int32) (w_this_word : Option Nat) (p1 p2 : Int32) (i_x_this_length : iv x_this_length 0 700) (i_x_this_at : iv x_this_at 0 700) (i_x_this_start : iv x_this_start 0 700) (e_w_this_word : ew w_this_word) (i_x_this_number : iv x_this_number 0 10006) (i_x_this_found : iv x_this_found 0 5) (i_p1 : iv p1 0 700) (hle : p1.toInt ≤ x_this_length.toInt) : cP l yX4_endOfRow wsX4_endOfRow rm_Reader_endOfRow D ct [(q_this, .inr (4, [.ref q_this_draft, .int x_this_place, .ref q_this_text, .int x_this_length, .int x_this_at, .int x_this_kind, .int x_this_start, (va_re ad w_this_word), .int x_this_number, .ref q_this_rule, .int x_this_found])), (q_this_text, .inl (ct 1, 700, .inl f_this_text))] [.ref q_this, .int p1, .int p2] (fun r : Int32 => iv r 0 700 ∧ ux_er f_this_text x_this_length p1 r p2 ∧ p1.toInt ≤ r.toInt ∧ r.toInt ≤ x_this_length.toInt) := by
  refine cP_of (cc := cX4_endOfRow) (maxL := 4) (by decide) rfl (Nat.le_of_ble_eq_true rfl) ?_
  intro p e s m args below meth c Q hx hb hml hts hown hK hP hE ls hl
  have hl : lv_has ls 4 [(0, .ref q_this), (1, .int p1), (2, .int p2)] := hl
  have hin_Reader : ∀ w ∈ u_ws RX4 TX4 11, w ∈ wsX4_endOfRow := fun w h => List.mem_cons_of_mem _ (List.mem_append_right _ (h))
  have K2 : ∀ (n2 : Nat) (v3c2 : Int32) (ls : Array Slot), iv v3c2 0 700 → (700 - v3c2.toInt).toNat < n2 → p1.toInt ≤ v3c2.toInt → v3c2.toInt ≤ x_this_length.toInt → ux_r0 f_this_text p1 v3c2 p2 → lv_has ls 4 [(0, .ref q_this), (2, .int p2), (3, .int v3c2)] → W p l e rm_Reader_endOfRow s m args below meth c s.heap [] 0 0 Q (F0 m 2 ls []) := by
    intro n2
    induction n2 with
    | zero => intro v3c2 ls i_v3c2 hm2 rl2_0 rl2_1 rl2_2 hl; exact absurd hm2 (Nat.not_lt_zero _)
    | succ n2 ih2 =>
      intro v3c2 ls i_v3c2 hm2 rl2_0 rl2_1 rl2_2 hl
      refine lv_iload_n hx hb dX4_endOfRow_2 rfl (lv_at hl 2 rfl) ?_
      refine lv_aload_n hx hb dX4_endOfRow_3 rfl (lv_at hl 0 rfl) ?_
      refine va_get (D := D) (ci := 4) (v := .int x_this_length) (C := RX4) (T := TX4) (N := 11) hx hb hts hin_Reader hown hK hP 0 rfl rfl 3 (by decide) (hts (.fieldLink RX4 101 "GutterSeats$Reader" "length" "I") (List.mem_cons_of_mem _ (List.mem_append_left _ (List.mem_of_getElem? (i := 0) (by first | rfl | decide +kernel))))) (fun _ h9 => h9) rfl dX4_endOfRow_4 ?_
      refine lv_icmp_ge (tgt := 31) hx hb dX4_endOfRow_7 (by decide) (fun c1 => ?_) (fun c1 => ?_)
      ·
        refine lv_aload_n hx hb dX4_endOfRow_31 rfl (lv_at hl 0 rfl) ?_
        refine va_get (D := D) (ci := 4) (v := .int x_this_length) (C := RX4) (T := TX4) (N := 11) hx hb hts hin_Reader hown hK hP 0 rfl rfl 3 (by decide) (hts (.fieldLink RX4 101 "GutterSeats$Reader" "length" "I") (List.mem_cons_of_mem _ (List.mem_append_left _ (List.mem_of_getElem? (i := 0) (by first | rfl | decide +kernel))))) (fun _ h9 => h9) rfl dX4_endOfRow_32 ?_
        exact hE _ _ _ ⟨i_x_this_length, (show ux_er f_this_text x_this_length p1 x_this_length p2 from (ux_er_end rl2_2 (by clear rl2_1 hle; omega) (by clear rl2_0 hle; have := le_i c1; omega) rfl)), (show p1.toInt ≤ x_this_length.toInt from hle), (show x_this_length.toInt ≤ x_this_length.toInt from (by clear rl2_0 rl2_1 hle; omega))⟩ dX4_endOfRow_35
      ·
        have j2 : iv v3c2 0 699 := iv_ltL (iv_nle c1) i_v3c2 i_x_this_length (by decide)
        have j3 : iv x_this_length 1 700 := iv_ltR (iv_nle c1) i_v3c2 i_x_this_length (by decide)
        refine lv_aload_n hx hb dX4_endOfRow_10 rfl (lv_at hl 0 rfl) ?_
        refine va_get (D := D) (ci := 4) (v := .ref q_this_text) (C := RX4) (T := TX4) (N := 11) hx hb hts hin_Reader hown hK hP 0 rfl rfl 2 (by decide) (hts (.fieldLink RX4 22 "GutterSeats$Reader" "text" "[B") (List.mem_cons_of_mem _ (List.mem_append_left _ (List.mem_of_getElem? (i := 1) (by first | rfl | decide +kernel))))) (fun _ h9 => h9) rfl dX4_endOfRow_11 ?_
        refine lv_iload_n hx hb dX4_endOfRow_14 rfl (lv_at hl 2 rfl) ?_
        have n4 : vp_in v3c2 700 := iv_in j2 (by decide) (by decide)
        refine va_bald hx hb hK hP 1 1 rfl rfl n4 dX4_endOfRow_15 ?_
        refine lv_topi (fun x5 ex5 => ?_)
        refine kPS (rest := []) ⟨hx, hb, hml, hown, hts⟩ (c_Reader_kindOf l D ct x5) (va_cwS 1 hts gX4_endOfRow_X4_kindOf rfl rfl rfl (by first | exact hdX4_kindOf_1.2 | decide +kernel) ⟨(Nat.le_of_ble_eq_true rfl), (Nat.le_of_ble_eq_true rfl)⟩) hK hP [] rfl rfl hl.1 rfl (Nat.le_of_ble_eq_true rfl) dX4_endOfRow_16 ⟨(Nat.le_of_ble_eq_true rfl), (Nat.le_of_ble_eq_true rfl)⟩ (fun r6 hr6 => ?_)
        have g7 : r6.toInt = (ux_kb x5 : Int) := hr6
        refine lv_iload_n hx hb dX4_endOfRow_19 rfl (lv_at hl 1 rfl) ?_
        refine lv_icmp_eq (tgt := 25) hx hb dX4_endOfRow_20 (by decide) (fun c8 => ?_) (fun c8 => ?_)
        ·
          obtain ⟨x9, ex9⟩ : ∃ z : Int32, z = v3c2 + (1 : Int32) := ⟨_, rfl⟩
          refine lv_iinc (v := x9) (lv' := [(3, .int x9), (0, .ref q_this), (2, .int p2)]) hx hb dX4_endOfRow_25 hl (k := 2) rfl (by rw [ex9]; rfl) (by decide) rfl (fun ls hl => ?_)
          have i_x9 : iv x9 1 700 := iv_add ex9 j2 (iv_lit (1 : Int32) (by decide) : iv (1 : Int32) 1 1) (by decide) (by decide) (by decide) (by decide)
          refine lv_goto (tgt := 2) hx hb dX4_endOfRow_28 (by decide) ?_
          exact ih2 x9 ls (iv_w i_x9 (by decide) (by decide)) (ms_up ex9 j2 (by decide) (by decide) hm2) (by clear rl2_1 hle; have := (j2).1; have := (j2).2; have : (1 : Int32).toInt = 1 := rfl; have : x9.toInt = v3c2.toInt + (1 : Int32).toInt := (by rw [ex9]; exact iv_tadd (by omega) (by omega)); omega) (by clear rl2_0 rl2_1 hle; have := (j2).1; have := (j2).2; have : (1 : Int32).toInt = 1 := rfl; have := lt_i (iv_nle c1); have : x9.toInt = v3c2.toInt + (1 : Int32).toInt := (by rw [ex9]; exact iv_tadd (by omega) (by omega)); omega) (ux_r0_add rl2_2 ex5 g7 (by clear rl2_0 rl2_1 hle; have := congrArg Int32.toInt c8; omega) (by clear rl2_0 rl2_1 hle; have := (j2).1; have := (j2).2; have : (1 : Int32).toInt = 1 := rfl; have : x9.toInt = v3c2.toInt + (1 : Int32).toInt := (by rw [ex9]; exact iv_tadd (by omega) (by omega)); omega) (by clear rl2_0 rl2_1 hle; have := (j2).1; omega)) (lv_sub hl [1, 2, 0] rfl)
        ·
          refine lv_iload_n hx hb dX4_endOfRow_23 rfl (lv_at hl 2 rfl) ?_
          exact hE _ _ _ ⟨(iv_w j2 (by decide) (by decide)), (show ux_er f_this_text x_this_length p1 v3c2 p2 from (ux_er_at rl2_2 (by clear rl2_1 hle; omega) (by clear rl2_0 rl2_1 hle; have := lt_i (iv_nle c1); omega) ex5 g7 (by clear rl2_0 rl2_1 hle; have := ne_i c8; omega))), (show p1.toInt ≤ v3c2.toInt from rl2_0), (show v3c2.toInt ≤ x_this_length.toInt from rl2_1)⟩ dX4_endOfRow_24
  refine lv_iload_n hx hb dX4_endOfRow_0 rfl (lv_at hl 1 rfl) ?_
  refine lv_istore_n (lv' := [(3, .int p1), (0, .ref q_this), (1, .int p1), (2, .int p2)]) hx hb dX4_endOfRow_1 rfl hl (by decide) rfl (fun ls hl => ?_)
  exact K2 _ p1 ls i_p1 (Nat.lt_succ_self _) (by clear hle; omega) hle (ux_r0_nil (Int.le_refl _)) (lv_sub hl [1, 3, 0] rfl)
abbrev rm_Reader_findWord : Room := { frames := 4, cells := 0, slots := 0, locals := 141 }
set_option maxHeartbeats 4000000 in
set_option maxRecDepth 100000 in
theorem c_Reader_findWord (l : Launch) (D : va_G) (ct : Nat → ClassId) (ad sw : Nat → Nat) (wa : Nat) (q_this q_this_text q_this_draft q_this_rule : Nat) (x_this_place x_this_length x_this_at x_this_kind x_this_start x_this_number x_this_found : Int32) (f_this_text : Nat → Int32) (w_this_word : Option Nat) (i_x_this_length : iv x_this_length 0 700) (i_x_this_at : iv x_this_at 0 700) (i_x_this_start : iv x_this_start 0 700) (e_w_this_word : ew w_this_word) (i_x_this_number : iv x_this_number 0 10006) (i_x_this_found : iv x_this_found 0 5) (hle : x_this_at.toInt ≤ x_this_length.toInt) : eE (ER ad sw wa) l yX4_findWord wsX4_findWord rm_Reader_findWord D ct ad [(q_this, .inr (4, [.ref q_this_draft, .int x_this_place, .ref q_this_text, .int x_this_length, .int x_this_at, .int x_this_kind, .int x_this_start, (va_re ad w_this_word), .int x_this_number, .ref q_this_rule, .int x_this_found])), (q_this_text, .inl (ct 1, 700, .inl f_this_text))] [.ref q_this] (fun r : Option Nat => ew r ∧ ux_fw f_this_text x_this_length x_this_start x_this_at r) := by
  refine eE_of (cc := cX4_findWord) (maxL := 4) (by decide) rfl (Nat.le_of_ble_eq_true rfl) ?_
  intro p e s m args below meth c Q hx hb hml hts hown hK hP hX hE ls hl
  have hl : lv_has ls 4 [(0, .ref q_this)] := hl
  have hin_Reader : ∀ w ∈ u_ws RX4 TX4 11, w ∈ wsX4_findWord := fun w h => List.mem_cons_of_mem _ (List.mem_append_right _ (h))
  have K2 : ∀ (n2 : Nat) (v1c2 : Int32) (ls : Array Slot), iv v1c2 0 20 → (20 - v1c2.toInt).toNat < n2 → ux_nf f_this_text x_this_length x_this_start x_this_at v1c2 → lv_has ls 4 [(0, .ref q_this), (1, .int v1c2)] → W p l e rm_Reader_findWord s m args below meth c s.heap [] 0 0 Q (F0 m 2 ls []) := by
    intro n2
    induction n2 with
    | zero => intro v1c2 ls i_v1c2 hm2 rl2_0 hl; exact absurd hm2 (Nat.not_lt_zero _)
    | succ n2 ih2 =>
      intro v1c2 ls i_v1c2 hm2 rl2_0 hl
      have K21 : ∀ (n21 : Nat) (v1c21 v3c21 : Int32) (ls : Array Slot), iv v1c21 0 16 → iv v3c21 0 40 → (40 - v3c21.toInt).toNat < n21 → (20 - v1c21.toInt).toNat < n2 + 1 → 0 ≤ v3c21.toInt → v3c21.toInt ≤ (ux_wl v1c21.toNatClampNeg : Int) → ux_nf f_this_text x_this_length x_this_start x_this_at v1c21 → ux_pm f_this_text x_this_length x_this_start v1c21 v3c21 → lv_has ls 4 [(0, .ref q_this), (1, .int v1c21), (2, .ref (sw v1c21.toNatClampNeg)), (3, .int v3c21)] → W p l e rm_Reader_findWord s m args below meth c s.heap [] 0 0 Q (F0 m 21 ls []) := by
        intro n21
        induction n21 with
        | zero => intro v1c21 v3c21 ls i_v1c21 i_v3c21 hm21 hm2 rl21_0 rl21_1 rl21_2 rl21_3 hl; exact absurd hm21 (Nat.not_lt_zero _)
        | succ n21 ih21 =>
          intro v1c21 v3c21 ls i_v1c21 i_v3c21 hm21 hm2 rl21_0 rl21_1 rl21_2 rl21_3 hl
          have h1 : v1c21.toNatClampNeg < 17 := by have q := (i_v1c21).2; have q1 := (i_v1c21).1; show v1c21.toInt.toNat < 17; omega
          have s_sw_v1c21_toNatClampNeg := hX.2.2.2.1 v1c21.toNatClampNeg h1
          have hn_sw_v1c21_toNatClampNeg := s_sw_v1c21_toNatClampNeg.1
          refine lv_iload_n hx hb dX4_findWord_21 rfl (lv_at hl 3 rfl) ?_
          refine lv_aload_n hx hb dX4_findWord_22 rfl (lv_at hl 2 rfl) ?_
          refine kePO (rest := [.int v3c21]) ⟨hx, hb, hml, hown, hts⟩ (c_J0_length l D ct (sw v1c21.toNatClampNeg) v1c21.toNatClampNeg) (cwV 0 hts gX4_findWord_J0_length_8abf5 rfl rfl rfl (by first | exact hdJ0_length_8abf5_0 | decide +kernel) ⟨(Nat.le_of_ble_eq_true rfl), (Nat.le_of_ble_eq_true rfl)⟩) (ER_ok ad sw wa) (ES_ok (sw v1c21.toNatClampNeg) v1c21.toNatClampNeg) (fun h => ⟨h.1, s_sw_v1c21_toNatClampNeg⟩) hX (va_S.rf (A := fun _ => False)) (s_sw_v1c21_toNatClampNeg.rec (va_S.rf (A := fun _ => False))) hK hP [] rfl rfl hl.1 rfl (Nat.le_of_ble_eq_true rfl) dX4_findWord_23 ⟨(Nat.le_of_ble_eq_true rfl), (Nat.le_of_ble_eq_true rfl)⟩ (fun r2 hr2 => ?_)
          have i_r2 : iv r2 0 40 := by rw [hr2]; exact nI_iv hn_sw_v1c21_toNatClampNeg.2 (by have := hn_sw_v1c21_toNatClampNeg.2; omega)
          have l_r2 : r2.toInt = (ux_wl v1c21.toNatClampNeg : Int) := by rw [hr2]; exact nI_toInt (by have := hn_sw_v1c21_toNatClampNeg.2; omega)
          refine lv_icmp_ge (tgt := 67) hx hb dX4_findWord_26 (by decide) (fun c3 => ?_) (fun c3 => ?_)
          ·
            refine lv_iload_n hx hb dX4_findWord_67 rfl (lv_at hl 3 rfl) ?_
            refine lv_aload_n hx hb dX4_findWord_68 rfl (lv_at hl 2 rfl) ?_
            refine kePO (rest := [.int v3c21]) ⟨hx, hb, hml, hown, hts⟩ (c_J0_length l D ct (sw v1c21.toNatClampNeg) v1c21.toNatClampNeg) (cwV 0 hts gX4_findWord_J0_length_8abf5 rfl rfl rfl (by first | exact hdJ0_length_8abf5_0 | decide +kernel) ⟨(Nat.le_of_ble_eq_true rfl), (Nat.le_of_ble_eq_true rfl)⟩) (ER_ok ad sw wa) (ES_ok (sw v1c21.toNatClampNeg) v1c21.toNatClampNeg) (fun h => ⟨h.1, s_sw_v1c21_toNatClampNeg⟩) hX (va_S.rf (A := fun _ => False)) (s_sw_v1c21_toNatClampNeg.rec (va_S.rf (A := fun _ => False))) hK hP [] rfl rfl hl.1 rfl (Nat.le_of_ble_eq_true rfl) dX4_findWord_69 ⟨(Nat.le_of_ble_eq_true rfl), (Nat.le_of_ble_eq_true rfl)⟩ (fun r4 hr4 => ?_)
            have i_r4 : iv r4 0 40 := by rw [hr4]; exact nI_iv hn_sw_v1c21_toNatClampNeg.2 (by have := hn_sw_v1c21_toNatClampNeg.2; omega)
            have l_r4 : r4.toInt = (ux_wl v1c21.toNatClampNeg : Int) := by rw [hr4]; exact nI_toInt (by have := hn_sw_v1c21_toNatClampNeg.2; omega)
            refine lv_icmp_ne (tgt := 94) hx hb dX4_findWord_72 (by decide) (fun c5 => ?_) (fun c5 => ?_)
            ·
              obtain ⟨x6, ex6⟩ : ∃ z : Int32, z = v1c21 + (1 : Int32) := ⟨_, rfl⟩
              refine lv_iinc (v := x6) (lv' := [(1, .int x6), (0, .ref q_this), (2, .ref (sw v1c21.toNatClampNeg)), (3, .int v3c21)]) hx hb dX4_findWord_94 hl (k := 1) rfl (by rw [ex6]; rfl) (by decide) rfl (fun ls hl => ?_)
              have i_x6 : iv x6 1 17 := iv_add ex6 i_v1c21 (iv_lit (1 : Int32) (by decide) : iv (1 : Int32) 1 1) (by decide) (by decide) (by decide) (by decide)
              refine lv_goto (tgt := 2) hx hb dX4_findWord_97 (by decide) ?_
              exact ih2 x6 ls (iv_w i_x6 (by decide) (by decide)) (ms_up ex6 i_v1c21 (by decide) (by decide) hm2) (ux_nf_add rl21_2 (by clear rl21_0 rl21_1 hle; have := (i_v1c21).1; omega) (ux_mt_no1 (show ¬ (x_this_at.toInt = x_this_start.toInt + (ux_wl v1c21.toNatClampNeg : Int)) from by have := rl21_0; have := rl21_1; have := hle; have := hn_sw_v1c21_toNatClampNeg; have := l_r2; have := l_r4; have := (i_x_this_at).1; have := (i_x_this_at).2; have := (i_x_this_start).1; have := (i_x_this_start).2; have := (i_v3c21).1; have := (i_v3c21).2; have := (i_x_this_length).1; have := (i_x_this_length).2; have := (i_r2).1; have := (i_r2).2; have := (i_r4).1; have := (i_r4).2; have := le_i c3; have := ne_i c5; omega) (by clear rl21_0 rl21_1 hle; have := (i_x_this_start).1; omega) (by clear rl21_0 rl21_1 hle; have := (i_x_this_at).1; omega)) (by clear rl21_0 rl21_1 hle; have := (i_v1c21).1; have := (i_v1c21).2; have : (1 : Int32).toInt = 1 := rfl; have : x6.toInt = v1c21.toInt + (1 : Int32).toInt := (by rw [ex6]; exact iv_tadd (by omega) (by omega)); omega)) (lv_sub hl [1, 0] rfl)
            ·
              refine lv_aload_n hx hb dX4_findWord_75 rfl (lv_at hl 0 rfl) ?_
              refine va_get (D := D) (ci := 4) (v := .int x_this_start) (C := RX4) (T := TX4) (N := 11) hx hb hts hin_Reader hown hK hP 0 rfl rfl 6 (by decide) (hts (.fieldLink RX4 113 "GutterSeats$Reader" "start" "I") (List.mem_cons_of_mem _ (List.mem_append_left _ (List.mem_append_left _ (List.mem_of_getElem? (i := 2) (by first | rfl | decide +kernel)))))) (fun _ h9 => h9) rfl dX4_findWord_76 ?_
              refine lv_iload_n hx hb dX4_findWord_79 rfl (lv_at hl 3 rfl) ?_
              refine lv_iadd hx hb dX4_findWord_80 ?_
              refine lv_topi (fun x7 ex7 => ?_)
              have i_x7 : iv x7 0 740 := iv_add ex7 i_x_this_start i_v3c21 (by decide) (by decide) (by decide) (by decide)
              refine lv_aload_n hx hb dX4_findWord_81 rfl (lv_at hl 0 rfl) ?_
              refine va_get (D := D) (ci := 4) (v := .int x_this_at) (C := RX4) (T := TX4) (N := 11) hx hb hts hin_Reader hown hK hP 0 rfl rfl 4 (by decide) (hts (.fieldLink RX4 104 "GutterSeats$Reader" "at" "I") (List.mem_cons_of_mem _ (List.mem_append_left _ (List.mem_append_left _ (List.mem_of_getElem? (i := 3) (by first | rfl | decide +kernel)))))) (fun _ h9 => h9) rfl dX4_findWord_82 ?_
              refine lv_icmp_ne (tgt := 94) hx hb dX4_findWord_85 (by decide) (fun c8 => ?_) (fun c8 => ?_)
              ·
                obtain ⟨x9, ex9⟩ : ∃ z : Int32, z = v1c21 + (1 : Int32) := ⟨_, rfl⟩
                refine lv_iinc (v := x9) (lv' := [(1, .int x9), (0, .ref q_this), (2, .ref (sw v1c21.toNatClampNeg)), (3, .int v3c21)]) hx hb dX4_findWord_94 hl (k := 1) rfl (by rw [ex9]; rfl) (by decide) rfl (fun ls hl => ?_)
                have i_x9 : iv x9 1 17 := iv_add ex9 i_v1c21 (iv_lit (1 : Int32) (by decide) : iv (1 : Int32) 1 1) (by decide) (by decide) (by decide) (by decide)
                refine lv_goto (tgt := 2) hx hb dX4_findWord_97 (by decide) ?_
                exact ih2 x9 ls (iv_w i_x9 (by decide) (by decide)) (ms_up ex9 i_v1c21 (by decide) (by decide) hm2) (ux_nf_add rl21_2 (by clear rl21_0 rl21_1 hle; have := (i_v1c21).1; omega) (ux_mt_no1 (show ¬ (x_this_at.toInt = x_this_start.toInt + (ux_wl v1c21.toNatClampNeg : Int)) from by have := rl21_0; have := rl21_1; have := hle; have := hn_sw_v1c21_toNatClampNeg; have := l_r2; have := l_r4; have := (i_x_this_at).1; have := (i_x_this_at).2; have := (i_x_this_start).1; have := (i_x_this_start).2; have := (i_v3c21).1; have := (i_v3c21).2; have := (i_x_this_length).1; have := (i_x_this_length).2; have := (i_r2).1; have := (i_r2).2; have := (i_r4).1; have := (i_r4).2; have := (i_x7).1; have := (i_x7).2; have := ne_i c8; have := le_i c3; have := congrArg Int32.toInt c5; have : x7.toInt = x_this_start.toInt + v3c21.toInt := (by rw [ex7]; exact iv_tadd (by omega) (by omega)); omega) (by clear rl21_0 rl21_1 hle; have := (i_x_this_start).1; omega) (by clear rl21_0 rl21_1 hle; have := (i_x_this_at).1; omega)) (by clear rl21_0 rl21_1 hle; have := (i_v1c21).1; have := (i_v1c21).2; have : (1 : Int32).toInt = 1 := rfl; have : x9.toInt = v1c21.toInt + (1 : Int32).toInt := (by rw [ex9]; exact iv_tadd (by omega) (by omega)); omega)) (lv_sub hl [1, 0] rfl)
              ·
                have j10 : iv x7 0 700 := by rw [c8]; exact i_x_this_at
                refine va_gets hx hb hX.2.2.2.2.1 (va_S.rf (A := fun _ => False)) hown (hts (.fieldLink RX4 245 "GutterSeats$Reader" "WORDS" "[LGutterSeats$Word;") (List.mem_cons_of_mem _ (List.mem_append_left _ (List.mem_append_left _ (List.mem_of_getElem? (i := 0) (by first | rfl | decide +kernel)))))) (fun _ h9 => h9) dX4_findWord_88 ?_
                refine lv_iload_n hx hb dX4_findWord_91 rfl (lv_at hl 1 rfl) ?_
                have n11 : vp_in v1c21 17 := iv_in i_v1c21 (by decide) (by decide)
                refine vb_tq (v := .ref (ad v1c21.toNatClampNeg)) hx hb hX.2.2.2.2.2.1 (va_S.rf (A := fun _ => False)) n11 rfl dX4_findWord_92 ?_
                have h12 : v1c21.toNatClampNeg < 17 := (Nat.not_le.mp fun q => n11 (Or.inr q))
                exact hE (some v1c21.toNatClampNeg) _ _ ⟨(ew_some h12), (ux_fw_some rl21_3 (show v1c21.toNatClampNeg < 17 from by have q := (i_v1c21).2; have q1 := (i_v1c21).1; show v1c21.toInt.toNat < 17; omega) (by have := rl21_0; have := rl21_1; have := hle; have := hn_sw_v1c21_toNatClampNeg; have := l_r2; have := l_r4; have := (i_v3c21).1; have := (i_v3c21).2; have := (i_x_this_at).1; have := (i_x_this_at).2; have := (i_x_this_length).1; have := (i_x_this_length).2; have := (i_r2).1; have := (i_r2).2; have := (i_r4).1; have := (i_r4).2; have := (j10).1; have := (j10).2; have := (i_x_this_start).1; have := (i_x_this_start).2; have := le_i c3; have := congrArg Int32.toInt c5; have := congrArg Int32.toInt c8; have : x7.toInt = x_this_start.toInt + v3c21.toInt := (by rw [ex7]; exact iv_tadd (by omega) (by omega)); omega) (by clear rl21_0 rl21_1 hle; have := (i_x_this_start).1; omega) (by clear rl21_1 hle; have := (i_x_this_start).1; have := (i_x_this_start).2; have := (i_v3c21).2; have := congrArg Int32.toInt c8; have : x7.toInt = x_this_start.toInt + v3c21.toInt := (by rw [ex7]; exact iv_tadd (by omega) (by omega)); omega))⟩ dX4_findWord_93
          ·
            have j13 : iv v3c21 0 39 := iv_ltL (iv_nle c3) i_v3c21 i_r2 (by decide)
            have j14 : iv r2 1 40 := iv_ltR (iv_nle c3) i_v3c21 i_r2 (by decide)
            refine lv_aload_n hx hb dX4_findWord_29 rfl (lv_at hl 0 rfl) ?_
            refine va_get (D := D) (ci := 4) (v := .int x_this_start) (C := RX4) (T := TX4) (N := 11) hx hb hts hin_Reader hown hK hP 0 rfl rfl 6 (by decide) (hts (.fieldLink RX4 113 "GutterSeats$Reader" "start" "I") (List.mem_cons_of_mem _ (List.mem_append_left _ (List.mem_append_left _ (List.mem_of_getElem? (i := 2) (by first | rfl | decide +kernel)))))) (fun _ h9 => h9) rfl dX4_findWord_30 ?_
            refine lv_iload_n hx hb dX4_findWord_33 rfl (lv_at hl 3 rfl) ?_
            refine lv_iadd hx hb dX4_findWord_34 ?_
            refine lv_topi (fun x15 ex15 => ?_)
            have i_x15 : iv x15 0 739 := iv_add ex15 i_x_this_start j13 (by decide) (by decide) (by decide) (by decide)
            refine lv_aload_n hx hb dX4_findWord_35 rfl (lv_at hl 0 rfl) ?_
            refine va_get (D := D) (ci := 4) (v := .int x_this_at) (C := RX4) (T := TX4) (N := 11) hx hb hts hin_Reader hown hK hP 0 rfl rfl 4 (by decide) (hts (.fieldLink RX4 104 "GutterSeats$Reader" "at" "I") (List.mem_cons_of_mem _ (List.mem_append_left _ (List.mem_append_left _ (List.mem_of_getElem? (i := 3) (by first | rfl | decide +kernel)))))) (fun _ h9 => h9) rfl dX4_findWord_36 ?_
            refine lv_icmp_ge (tgt := 67) hx hb dX4_findWord_39 (by decide) (fun c16 => ?_) (fun c16 => ?_)
            ·
              refine lv_iload_n hx hb dX4_findWord_67 rfl (lv_at hl 3 rfl) ?_
              refine lv_aload_n hx hb dX4_findWord_68 rfl (lv_at hl 2 rfl) ?_
              refine kePO (rest := [.int v3c21]) ⟨hx, hb, hml, hown, hts⟩ (c_J0_length l D ct (sw v1c21.toNatClampNeg) v1c21.toNatClampNeg) (cwV 0 hts gX4_findWord_J0_length_8abf5 rfl rfl rfl (by first | exact hdJ0_length_8abf5_0 | decide +kernel) ⟨(Nat.le_of_ble_eq_true rfl), (Nat.le_of_ble_eq_true rfl)⟩) (ER_ok ad sw wa) (ES_ok (sw v1c21.toNatClampNeg) v1c21.toNatClampNeg) (fun h => ⟨h.1, s_sw_v1c21_toNatClampNeg⟩) hX (va_S.rf (A := fun _ => False)) (s_sw_v1c21_toNatClampNeg.rec (va_S.rf (A := fun _ => False))) hK hP [] rfl rfl hl.1 rfl (Nat.le_of_ble_eq_true rfl) dX4_findWord_69 ⟨(Nat.le_of_ble_eq_true rfl), (Nat.le_of_ble_eq_true rfl)⟩ (fun r17 hr17 => ?_)
              have i_r17 : iv r17 0 40 := by rw [hr17]; exact nI_iv hn_sw_v1c21_toNatClampNeg.2 (by have := hn_sw_v1c21_toNatClampNeg.2; omega)
              have l_r17 : r17.toInt = (ux_wl v1c21.toNatClampNeg : Int) := by rw [hr17]; exact nI_toInt (by have := hn_sw_v1c21_toNatClampNeg.2; omega)
              refine lv_icmp_ne (tgt := 94) hx hb dX4_findWord_72 (by decide) (fun c18 => ?_) (fun c18 => ?_)
              ·
                obtain ⟨x19, ex19⟩ : ∃ z : Int32, z = v1c21 + (1 : Int32) := ⟨_, rfl⟩
                refine lv_iinc (v := x19) (lv' := [(1, .int x19), (0, .ref q_this), (2, .ref (sw v1c21.toNatClampNeg)), (3, .int v3c21)]) hx hb dX4_findWord_94 hl (k := 1) rfl (by rw [ex19]; rfl) (by decide) rfl (fun ls hl => ?_)
                have i_x19 : iv x19 1 17 := iv_add ex19 i_v1c21 (iv_lit (1 : Int32) (by decide) : iv (1 : Int32) 1 1) (by decide) (by decide) (by decide) (by decide)
                refine lv_goto (tgt := 2) hx hb dX4_findWord_97 (by decide) ?_
                exact ih2 x19 ls (iv_w i_x19 (by decide) (by decide)) (ms_up ex19 i_v1c21 (by decide) (by decide) hm2) (ux_nf_add rl21_2 (by clear rl21_0 rl21_1 hle; have := (i_v1c21).1; omega) (ux_mt_no1 (show ¬ (x_this_at.toInt = x_this_start.toInt + (ux_wl v1c21.toNatClampNeg : Int)) from by have := rl21_0; have := rl21_1; have := hle; have := hn_sw_v1c21_toNatClampNeg; have := l_r2; have := l_r17; have := (i_x_this_at).1; have := (i_x_this_at).2; have := (i_x_this_start).1; have := (i_x_this_start).2; have := (j13).1; have := (j13).2; have := (i_x_this_length).1; have := (i_x_this_length).2; have := (j14).1; have := (j14).2; have := (i_r17).1; have := (i_r17).2; have := (i_x15).1; have := (i_x15).2; have := le_i c16; have := lt_i (iv_nle c3); have := ne_i c18; have : x15.toInt = x_this_start.toInt + v3c21.toInt := (by rw [ex15]; exact iv_tadd (by omega) (by omega)); omega) (by clear rl21_0 rl21_1 hle; have := (i_x_this_start).1; omega) (by clear rl21_0 rl21_1 hle; have := (i_x_this_at).1; omega)) (by clear rl21_0 rl21_1 hle; have := (i_v1c21).1; have := (i_v1c21).2; have : (1 : Int32).toInt = 1 := rfl; have : x19.toInt = v1c21.toInt + (1 : Int32).toInt := (by rw [ex19]; exact iv_tadd (by omega) (by omega)); omega)) (lv_sub hl [1, 0] rfl)
              ·
                have j20 : iv r17 0 39 := by rw [← c18]; exact j13
                refine lv_aload_n hx hb dX4_findWord_75 rfl (lv_at hl 0 rfl) ?_
                refine va_get (D := D) (ci := 4) (v := .int x_this_start) (C := RX4) (T := TX4) (N := 11) hx hb hts hin_Reader hown hK hP 0 rfl rfl 6 (by decide) (hts (.fieldLink RX4 113 "GutterSeats$Reader" "start" "I") (List.mem_cons_of_mem _ (List.mem_append_left _ (List.mem_append_left _ (List.mem_of_getElem? (i := 2) (by first | rfl | decide +kernel)))))) (fun _ h9 => h9) rfl dX4_findWord_76 ?_
                refine lv_iload_n hx hb dX4_findWord_79 rfl (lv_at hl 3 rfl) ?_
                refine lv_iadd hx hb dX4_findWord_80 ?_
                refine lv_topi (fun x21 ex21 => ?_)
                have i_x21 : iv x21 0 739 := iv_add ex21 i_x_this_start j13 (by decide) (by decide) (by decide) (by decide)
                refine lv_aload_n hx hb dX4_findWord_81 rfl (lv_at hl 0 rfl) ?_
                refine va_get (D := D) (ci := 4) (v := .int x_this_at) (C := RX4) (T := TX4) (N := 11) hx hb hts hin_Reader hown hK hP 0 rfl rfl 4 (by decide) (hts (.fieldLink RX4 104 "GutterSeats$Reader" "at" "I") (List.mem_cons_of_mem _ (List.mem_append_left _ (List.mem_append_left _ (List.mem_of_getElem? (i := 3) (by first | rfl | decide +kernel)))))) (fun _ h9 => h9) rfl dX4_findWord_82 ?_
                refine lv_icmp_ne (tgt := 94) hx hb dX4_findWord_85 (by decide) (fun c22 => ?_) (fun c22 => ?_)
                ·
                  obtain ⟨x23, ex23⟩ : ∃ z : Int32, z = v1c21 + (1 : Int32) := ⟨_, rfl⟩
                  refine lv_iinc (v := x23) (lv' := [(1, .int x23), (0, .ref q_this), (2, .ref (sw v1c21.toNatClampNeg)), (3, .int v3c21)]) hx hb dX4_findWord_94 hl (k := 1) rfl (by rw [ex23]; rfl) (by decide) rfl (fun ls hl => ?_)
                  have i_x23 : iv x23 1 17 := iv_add ex23 i_v1c21 (iv_lit (1 : Int32) (by decide) : iv (1 : Int32) 1 1) (by decide) (by decide) (by decide) (by decide)
                  refine lv_goto (tgt := 2) hx hb dX4_findWord_97 (by decide) ?_
                  exact ih2 x23 ls (iv_w i_x23 (by decide) (by decide)) (ms_up ex23 i_v1c21 (by decide) (by decide) hm2) (ux_nf_add rl21_2 (by clear rl21_0 rl21_1 hle; have := (i_v1c21).1; omega) (ux_mt_no1 (show ¬ (x_this_at.toInt = x_this_start.toInt + (ux_wl v1c21.toNatClampNeg : Int)) from by have := rl21_0; have := rl21_1; have := hle; have := hn_sw_v1c21_toNatClampNeg; have := l_r2; have := l_r17; have := (i_x_this_at).1; have := (i_x_this_at).2; have := (i_x_this_start).1; have := (i_x_this_start).2; have := (j13).1; have := (j13).2; have := (i_x_this_length).1; have := (i_x_this_length).2; have := (j14).1; have := (j14).2; have := (j20).1; have := (j20).2; have := (i_x15).1; have := (i_x15).2; have := (i_x21).1; have := (i_x21).2; have := le_i c16; have := ne_i c22; have := lt_i (iv_nle c3); have := congrArg Int32.toInt c18; have : x21.toInt = x_this_start.toInt + v3c21.toInt := (by rw [ex21]; exact iv_tadd (by omega) (by omega)); have : x15.toInt = x_this_start.toInt + v3c21.toInt := (by rw [ex15]; exact iv_tadd (by omega) (by omega)); omega) (by clear rl21_0 rl21_1 hle; have := (i_x_this_start).1; omega) (by clear rl21_0 rl21_1 hle; have := (i_x_this_at).1; omega)) (by clear rl21_0 rl21_1 hle; have := (i_v1c21).1; have := (i_v1c21).2; have : (1 : Int32).toInt = 1 := rfl; have : x23.toInt = v1c21.toInt + (1 : Int32).toInt := (by rw [ex23]; exact iv_tadd (by omega) (by omega)); omega)) (lv_sub hl [1, 0] rfl)
                ·
                  have j24 : iv x21 0 700 := by rw [c22]; exact i_x_this_at
                  refine va_gets hx hb hX.2.2.2.2.1 (va_S.rf (A := fun _ => False)) hown (hts (.fieldLink RX4 245 "GutterSeats$Reader" "WORDS" "[LGutterSeats$Word;") (List.mem_cons_of_mem _ (List.mem_append_left _ (List.mem_append_left _ (List.mem_of_getElem? (i := 0) (by first | rfl | decide +kernel)))))) (fun _ h9 => h9) dX4_findWord_88 ?_
                  refine lv_iload_n hx hb dX4_findWord_91 rfl (lv_at hl 1 rfl) ?_
                  have n25 : vp_in v1c21 17 := iv_in i_v1c21 (by decide) (by decide)
                  refine vb_tq (v := .ref (ad v1c21.toNatClampNeg)) hx hb hX.2.2.2.2.2.1 (va_S.rf (A := fun _ => False)) n25 rfl dX4_findWord_92 ?_
                  have h26 : v1c21.toNatClampNeg < 17 := (Nat.not_le.mp fun q => n25 (Or.inr q))
                  exact hE (some v1c21.toNatClampNeg) _ _ ⟨(ew_some h26), (ux_fw_some rl21_3 (show v1c21.toNatClampNeg < 17 from by have q := (i_v1c21).2; have q1 := (i_v1c21).1; show v1c21.toInt.toNat < 17; omega) (by have := rl21_0; have := rl21_1; have := hle; have := hn_sw_v1c21_toNatClampNeg; have := l_r2; have := l_r17; have := (j13).1; have := (j13).2; have := (i_x_this_at).1; have := (i_x_this_at).2; have := (i_x_this_length).1; have := (i_x_this_length).2; have := (j14).1; have := (j14).2; have := (j20).1; have := (j20).2; have := (i_x15).1; have := (i_x15).2; have := (j24).1; have := (j24).2; have := (i_x_this_start).1; have := (i_x_this_start).2; have := lt_i (iv_nle c3); have := congrArg Int32.toInt c18; have := le_i c16; have := congrArg Int32.toInt c22; have : x21.toInt = x_this_start.toInt + v3c21.toInt := (by rw [ex21]; exact iv_tadd (by omega) (by omega)); have : x15.toInt = x_this_start.toInt + v3c21.toInt := (by rw [ex15]; exact iv_tadd (by omega) (by omega)); omega) (by clear rl21_0 rl21_1 hle; have := (i_x_this_start).1; omega) (by clear rl21_1 hle; have := (i_x_this_start).1; have := (i_x_this_start).2; have := (j13).2; have := le_i c16; have := congrArg Int32.toInt c22; have : x21.toInt = x_this_start.toInt + v3c21.toInt := (by rw [ex21]; exact iv_tadd (by omega) (by omega)); have : x15.toInt = x_this_start.toInt + v3c21.toInt := (by rw [ex15]; exact iv_tadd (by omega) (by omega)); omega))⟩ dX4_findWord_93
            ·
              have j27 : iv x15 0 699 := iv_ltL (iv_nle c16) i_x15 i_x_this_at (by decide)
              have j28 : iv x_this_at 1 700 := iv_ltR (iv_nle c16) i_x15 i_x_this_at (by decide)
              refine lv_aload_n hx hb dX4_findWord_42 rfl (lv_at hl 2 rfl) ?_
              refine lv_iload_n hx hb dX4_findWord_43 rfl (lv_at hl 3 rfl) ?_
              refine kePO (rest := []) ⟨hx, hb, hml, hown, hts⟩ (c_J0_charAt l D ct (sw v1c21.toNatClampNeg) v1c21.toNatClampNeg v3c21 (by clear rl21_1 hle; omega) (by have := rl21_0; have := rl21_1; have := hle; have := hn_sw_v1c21_toNatClampNeg; have := l_r2; have := (j13).1; have := (j13).2; have := (j28).1; have := (j28).2; have := (i_x_this_length).1; have := (i_x_this_length).2; have := (j14).1; have := (j14).2; have := (j27).1; have := (j27).2; have := (i_x_this_start).1; have := (i_x_this_start).2; have := lt_i (iv_nle c3); have := lt_i (iv_nle c16); have : x15.toInt = x_this_start.toInt + v3c21.toInt := (by rw [ex15]; exact iv_tadd (by omega) (by omega)); omega) hn_sw_v1c21_toNatClampNeg.2) (cwV 1 hts gX4_findWord_J0_charAt_5068e rfl rfl rfl (by first | exact hdJ0_charAt_5068e_1 | decide +kernel) ⟨(Nat.le_of_ble_eq_true rfl), (Nat.le_of_ble_eq_true rfl)⟩) (ER_ok ad sw wa) (ES_ok (sw v1c21.toNatClampNeg) v1c21.toNatClampNeg) (fun h => ⟨h.1, s_sw_v1c21_toNatClampNeg⟩) hX (va_S.rf (A := fun _ => False)) (s_sw_v1c21_toNatClampNeg.rec (va_S.rf (A := fun _ => False))) hK hP [] rfl rfl hl.1 rfl (Nat.le_of_ble_eq_true rfl) dX4_findWord_44 ⟨(Nat.le_of_ble_eq_true rfl), (Nat.le_of_ble_eq_true rfl)⟩ (fun r29 hr29 => ?_)
              refine lv_aload_n hx hb dX4_findWord_47 rfl (lv_at hl 0 rfl) ?_
              refine va_get (D := D) (ci := 4) (v := .ref q_this_text) (C := RX4) (T := TX4) (N := 11) hx hb hts hin_Reader hown hK hP 0 rfl rfl 2 (by decide) (hts (.fieldLink RX4 22 "GutterSeats$Reader" "text" "[B") (List.mem_cons_of_mem _ (List.mem_append_left _ (List.mem_append_left _ (List.mem_of_getElem? (i := 4) (by first | rfl | decide +kernel)))))) (fun _ h9 => h9) rfl dX4_findWord_48 ?_
              refine lv_aload_n hx hb dX4_findWord_51 rfl (lv_at hl 0 rfl) ?_
              refine va_get (D := D) (ci := 4) (v := .int x_this_start) (C := RX4) (T := TX4) (N := 11) hx hb hts hin_Reader hown hK hP 0 rfl rfl 6 (by decide) (hts (.fieldLink RX4 113 "GutterSeats$Reader" "start" "I") (List.mem_cons_of_mem _ (List.mem_append_left _ (List.mem_append_left _ (List.mem_of_getElem? (i := 2) (by first | rfl | decide +kernel)))))) (fun _ h9 => h9) rfl dX4_findWord_52 ?_
              refine lv_iload_n hx hb dX4_findWord_55 rfl (lv_at hl 3 rfl) ?_
              refine lv_iadd hx hb dX4_findWord_56 ?_
              refine lv_topi (fun x30 ex30 => ?_)
              have i_x30 : iv x30 0 739 := iv_add ex30 i_x_this_start j13 (by decide) (by decide) (by decide) (by decide)
              have n31 : vp_in x30 700 := vp_in_iff.mpr (by clear rl21_1 hle; have := (i_x30).1; have := (j13).2; have := (i_x_this_start).1; have := (i_x_this_start).2; have := (j27).2; have : x15.toInt = x_this_start.toInt + v3c21.toInt := (by rw [ex15]; exact iv_tadd (by omega) (by omega)); have : x30.toInt = x_this_start.toInt + v3c21.toInt := (by rw [ex30]; exact iv_tadd (by omega) (by omega)); omega)
              refine va_bald hx hb hK hP 1 1 rfl rfl n31 dX4_findWord_57 ?_
              refine lv_topi (fun x32 ex32 => ?_)
              refine lv_icmp_ne (tgt := 67) hx hb dX4_findWord_58 (by decide) (fun c33 => ?_) (fun c33 => ?_)
              ·
                refine lv_iload_n hx hb dX4_findWord_67 rfl (lv_at hl 3 rfl) ?_
                refine lv_aload_n hx hb dX4_findWord_68 rfl (lv_at hl 2 rfl) ?_
                refine kePO (rest := [.int v3c21]) ⟨hx, hb, hml, hown, hts⟩ (c_J0_length l D ct (sw v1c21.toNatClampNeg) v1c21.toNatClampNeg) (cwV 0 hts gX4_findWord_J0_length_8abf5 rfl rfl rfl (by first | exact hdJ0_length_8abf5_0 | decide +kernel) ⟨(Nat.le_of_ble_eq_true rfl), (Nat.le_of_ble_eq_true rfl)⟩) (ER_ok ad sw wa) (ES_ok (sw v1c21.toNatClampNeg) v1c21.toNatClampNeg) (fun h => ⟨h.1, s_sw_v1c21_toNatClampNeg⟩) hX (va_S.rf (A := fun _ => False)) (s_sw_v1c21_toNatClampNeg.rec (va_S.rf (A := fun _ => False))) hK hP [] rfl rfl hl.1 rfl (Nat.le_of_ble_eq_true rfl) dX4_findWord_69 ⟨(Nat.le_of_ble_eq_true rfl), (Nat.le_of_ble_eq_true rfl)⟩ (fun r34 hr34 => ?_)
                have i_r34 : iv r34 0 40 := by rw [hr34]; exact nI_iv hn_sw_v1c21_toNatClampNeg.2 (by have := hn_sw_v1c21_toNatClampNeg.2; omega)
                have l_r34 : r34.toInt = (ux_wl v1c21.toNatClampNeg : Int) := by rw [hr34]; exact nI_toInt (by have := hn_sw_v1c21_toNatClampNeg.2; omega)
                refine lv_icmp_ne (tgt := 94) hx hb dX4_findWord_72 (by decide) (fun c35 => ?_) (fun c35 => ?_)
                ·
                  obtain ⟨x36, ex36⟩ : ∃ z : Int32, z = v1c21 + (1 : Int32) := ⟨_, rfl⟩
                  refine lv_iinc (v := x36) (lv' := [(1, .int x36), (0, .ref q_this), (2, .ref (sw v1c21.toNatClampNeg)), (3, .int v3c21)]) hx hb dX4_findWord_94 hl (k := 1) rfl (by rw [ex36]; rfl) (by decide) rfl (fun ls hl => ?_)
                  have i_x36 : iv x36 1 17 := iv_add ex36 i_v1c21 (iv_lit (1 : Int32) (by decide) : iv (1 : Int32) 1 1) (by decide) (by decide) (by decide) (by decide)
                  refine lv_goto (tgt := 2) hx hb dX4_findWord_97 (by decide) ?_
                  exact ih2 x36 ls (iv_w i_x36 (by decide) (by decide)) (ms_up ex36 i_v1c21 (by decide) (by decide) hm2) (ux_nf_add rl21_2 (by clear rl21_0 rl21_1 hle; have := (i_v1c21).1; omega) (ux_mt_no2 (show v1c21.toNatClampNeg < 17 from by have q := (i_v1c21).2; have q1 := (i_v1c21).1; show v1c21.toInt.toNat < 17; omega) (by clear rl21_1 hle; omega) (by have := rl21_0; have := rl21_1; have := hle; have := hn_sw_v1c21_toNatClampNeg; have := l_r2; have := l_r34; have := (j13).1; have := (j13).2; have := (j28).1; have := (j28).2; have := (i_x_this_length).1; have := (i_x_this_length).2; have := (j14).1; have := (j14).2; have := (i_r34).1; have := (i_r34).2; have := (j27).1; have := (j27).2; have := (i_x_this_start).1; have := (i_x_this_start).2; have := lt_i (iv_nle c3); have := ne_i c35; have := lt_i (iv_nle c16); have : x15.toInt = x_this_start.toInt + v3c21.toInt := (by rw [ex15]; exact iv_tadd (by omega) (by omega)); omega) (by clear rl21_0 rl21_1 hle; have := (i_x_this_start).1; omega) (by clear rl21_1 hle; have := (i_x_this_start).1; have := (i_x_this_start).2; have := (j13).2; have : x30.toInt = x_this_start.toInt + v3c21.toInt := (by rw [ex30]; exact iv_tadd (by omega) (by omega)); omega) (by clear rl21_1; have := (j13).2; have := (i_x_this_start).1; have := (i_x_this_start).2; have := lt_i (iv_nle c16); have : x15.toInt = x_this_start.toInt + v3c21.toInt := (by rw [ex15]; exact iv_tadd (by omega) (by omega)); have : x30.toInt = x_this_start.toInt + v3c21.toInt := (by rw [ex30]; exact iv_tadd (by omega) (by omega)); omega) ex32 hr29 c33) (by clear rl21_0 rl21_1 hle; have := (i_v1c21).1; have := (i_v1c21).2; have : (1 : Int32).toInt = 1 := rfl; have : x36.toInt = v1c21.toInt + (1 : Int32).toInt := (by rw [ex36]; exact iv_tadd (by omega) (by omega)); omega)) (lv_sub hl [1, 0] rfl)
                ·
                  have j37 : iv r34 0 39 := by rw [← c35]; exact j13
                  refine lv_aload_n hx hb dX4_findWord_75 rfl (lv_at hl 0 rfl) ?_
                  refine va_get (D := D) (ci := 4) (v := .int x_this_start) (C := RX4) (T := TX4) (N := 11) hx hb hts hin_Reader hown hK hP 0 rfl rfl 6 (by decide) (hts (.fieldLink RX4 113 "GutterSeats$Reader" "start" "I") (List.mem_cons_of_mem _ (List.mem_append_left _ (List.mem_append_left _ (List.mem_of_getElem? (i := 2) (by first | rfl | decide +kernel)))))) (fun _ h9 => h9) rfl dX4_findWord_76 ?_
                  refine lv_iload_n hx hb dX4_findWord_79 rfl (lv_at hl 3 rfl) ?_
                  refine lv_iadd hx hb dX4_findWord_80 ?_
                  refine lv_topi (fun x38 ex38 => ?_)
                  have i_x38 : iv x38 0 739 := iv_add ex38 i_x_this_start j13 (by decide) (by decide) (by decide) (by decide)
                  refine lv_aload_n hx hb dX4_findWord_81 rfl (lv_at hl 0 rfl) ?_
                  refine va_get (D := D) (ci := 4) (v := .int x_this_at) (C := RX4) (T := TX4) (N := 11) hx hb hts hin_Reader hown hK hP 0 rfl rfl 4 (by decide) (hts (.fieldLink RX4 104 "GutterSeats$Reader" "at" "I") (List.mem_cons_of_mem _ (List.mem_append_left _ (List.mem_append_left _ (List.mem_of_getElem? (i := 3) (by first | rfl | decide +kernel)))))) (fun _ h9 => h9) rfl dX4_findWord_82 ?_
                  refine lv_icmp_ne (tgt := 94) hx hb dX4_findWord_85 (by decide) (fun c39 => ?_) (fun c39 => ?_)
                  ·
                    obtain ⟨x40, ex40⟩ : ∃ z : Int32, z = v1c21 + (1 : Int32) := ⟨_, rfl⟩
                    refine lv_iinc (v := x40) (lv' := [(1, .int x40), (0, .ref q_this), (2, .ref (sw v1c21.toNatClampNeg)), (3, .int v3c21)]) hx hb dX4_findWord_94 hl (k := 1) rfl (by rw [ex40]; rfl) (by decide) rfl (fun ls hl => ?_)
                    have i_x40 : iv x40 1 17 := iv_add ex40 i_v1c21 (iv_lit (1 : Int32) (by decide) : iv (1 : Int32) 1 1) (by decide) (by decide) (by decide) (by decide)
                    refine lv_goto (tgt := 2) hx hb dX4_findWord_97 (by decide) ?_
                    exact ih2 x40 ls (iv_w i_x40 (by decide) (by decide)) (ms_up ex40 i_v1c21 (by decide) (by decide) hm2) (ux_nf_add rl21_2 (by clear rl21_0 rl21_1 hle; have := (i_v1c21).1; omega) (ux_mt_no2 (show v1c21.toNatClampNeg < 17 from by have q := (i_v1c21).2; have q1 := (i_v1c21).1; show v1c21.toInt.toNat < 17; omega) (by clear rl21_1 hle; omega) (by have := rl21_0; have := rl21_1; have := hle; have := hn_sw_v1c21_toNatClampNeg; have := l_r2; have := l_r34; have := (j13).1; have := (j13).2; have := (j28).1; have := (j28).2; have := (i_x_this_length).1; have := (i_x_this_length).2; have := (j14).1; have := (j14).2; have := (j37).1; have := (j37).2; have := (j27).1; have := (j27).2; have := (i_x38).1; have := (i_x38).2; have := (i_x_this_start).1; have := (i_x_this_start).2; have := lt_i (iv_nle c3); have := congrArg Int32.toInt c35; have := lt_i (iv_nle c16); have := ne_i c39; have : x38.toInt = x_this_start.toInt + v3c21.toInt := (by rw [ex38]; exact iv_tadd (by omega) (by omega)); have : x15.toInt = x_this_start.toInt + v3c21.toInt := (by rw [ex15]; exact iv_tadd (by omega) (by omega)); omega) (by clear rl21_0 rl21_1 hle; have := (i_x_this_start).1; omega) (by clear rl21_1 hle; have := (i_x_this_start).1; have := (i_x_this_start).2; have := (j13).2; have : x30.toInt = x_this_start.toInt + v3c21.toInt := (by rw [ex30]; exact iv_tadd (by omega) (by omega)); omega) (by clear rl21_1; have := (j13).2; have := (i_x_this_start).1; have := (i_x_this_start).2; have := lt_i (iv_nle c16); have : x15.toInt = x_this_start.toInt + v3c21.toInt := (by rw [ex15]; exact iv_tadd (by omega) (by omega)); have : x30.toInt = x_this_start.toInt + v3c21.toInt := (by rw [ex30]; exact iv_tadd (by omega) (by omega)); omega) ex32 hr29 c33) (by clear rl21_0 rl21_1 hle; have := (i_v1c21).1; have := (i_v1c21).2; have : (1 : Int32).toInt = 1 := rfl; have : x40.toInt = v1c21.toInt + (1 : Int32).toInt := (by rw [ex40]; exact iv_tadd (by omega) (by omega)); omega)) (lv_sub hl [1, 0] rfl)
                  ·
                    have j41 : iv x38 1 700 := by rw [c39]; exact j28
                    refine va_gets hx hb hX.2.2.2.2.1 (va_S.rf (A := fun _ => False)) hown (hts (.fieldLink RX4 245 "GutterSeats$Reader" "WORDS" "[LGutterSeats$Word;") (List.mem_cons_of_mem _ (List.mem_append_left _ (List.mem_append_left _ (List.mem_of_getElem? (i := 0) (by first | rfl | decide +kernel)))))) (fun _ h9 => h9) dX4_findWord_88 ?_
                    refine lv_iload_n hx hb dX4_findWord_91 rfl (lv_at hl 1 rfl) ?_
                    have n42 : vp_in v1c21 17 := iv_in i_v1c21 (by decide) (by decide)
                    refine vb_tq (v := .ref (ad v1c21.toNatClampNeg)) hx hb hX.2.2.2.2.2.1 (va_S.rf (A := fun _ => False)) n42 rfl dX4_findWord_92 ?_
                    have h43 : v1c21.toNatClampNeg < 17 := (Nat.not_le.mp fun q => n42 (Or.inr q))
                    exact hE (some v1c21.toNatClampNeg) _ _ ⟨(ew_some h43), (ux_fw_some rl21_3 (show v1c21.toNatClampNeg < 17 from by have q := (i_v1c21).2; have q1 := (i_v1c21).1; show v1c21.toInt.toNat < 17; omega) (by clear hle; have := (j13).2; have := (i_x_this_start).1; have := (i_x_this_start).2; have := lt_i (iv_nle c16); have := congrArg Int32.toInt c39; have : x38.toInt = x_this_start.toInt + v3c21.toInt := (by rw [ex38]; exact iv_tadd (by omega) (by omega)); have : x15.toInt = x_this_start.toInt + v3c21.toInt := (by rw [ex15]; exact iv_tadd (by omega) (by omega)); omega) (by clear rl21_0 rl21_1 hle; have := (i_x_this_start).1; omega) (by clear rl21_1 hle; have := (i_x_this_start).1; have := (i_x_this_start).2; have := (j13).2; have := lt_i (iv_nle c16); have := congrArg Int32.toInt c39; have : x38.toInt = x_this_start.toInt + v3c21.toInt := (by rw [ex38]; exact iv_tadd (by omega) (by omega)); have : x15.toInt = x_this_start.toInt + v3c21.toInt := (by rw [ex15]; exact iv_tadd (by omega) (by omega)); omega))⟩ dX4_findWord_93
              ·
                obtain ⟨x44, ex44⟩ : ∃ z : Int32, z = v3c21 + (1 : Int32) := ⟨_, rfl⟩
                refine lv_iinc (v := x44) (lv' := [(3, .int x44), (0, .ref q_this), (1, .int v1c21), (2, .ref (sw v1c21.toNatClampNeg))]) hx hb dX4_findWord_61 hl (k := 3) rfl (by rw [ex44]; rfl) (by decide) rfl (fun ls hl => ?_)
                have i_x44 : iv x44 1 40 := iv_add ex44 j13 (iv_lit (1 : Int32) (by decide) : iv (1 : Int32) 1 1) (by decide) (by decide) (by decide) (by decide)
                refine lv_goto (tgt := 21) hx hb dX4_findWord_64 (by decide) ?_
                exact ih21 v1c21 x44 ls i_v1c21 (iv_w i_x44 (by decide) (by decide)) (ms_up ex44 j13 (by decide) (by decide) hm21) hm2 (by clear rl21_0 rl21_1 hle; have := (i_x44).1; omega) (by have := rl21_0; have := rl21_1; have := hle; have := hn_sw_v1c21_toNatClampNeg; have := l_r2; have := (i_x44).1; have := (i_x44).2; have := (j28).1; have := (j28).2; have := (i_x_this_length).1; have := (i_x_this_length).2; have := (j13).1; have := (j13).2; have := (j14).1; have := (j14).2; have : (1 : Int32).toInt = 1 := rfl; have := (j27).1; have := (j27).2; have := (i_x_this_start).1; have := (i_x_this_start).2; have := lt_i (iv_nle c16); have := lt_i (iv_nle c3); have : x15.toInt = x_this_start.toInt + v3c21.toInt := (by rw [ex15]; exact iv_tadd (by omega) (by omega)); have : x44.toInt = v3c21.toInt + (1 : Int32).toInt := (by rw [ex44]; exact iv_tadd (by omega) (by omega)); omega) rl21_2 (ux_pm_add rl21_3 (show v1c21.toNatClampNeg < 17 from by have q := (i_v1c21).2; have q1 := (i_v1c21).1; show v1c21.toInt.toNat < 17; omega) (by clear rl21_1 hle; omega) (by have := rl21_0; have := rl21_1; have := hle; have := hn_sw_v1c21_toNatClampNeg; have := l_r2; have := (j13).1; have := (j13).2; have := (j28).1; have := (j28).2; have := (i_x_this_length).1; have := (i_x_this_length).2; have := (j14).1; have := (j14).2; have := (j27).1; have := (j27).2; have := (i_x_this_start).1; have := (i_x_this_start).2; have := lt_i (iv_nle c3); have := lt_i (iv_nle c16); have : x15.toInt = x_this_start.toInt + v3c21.toInt := (by rw [ex15]; exact iv_tadd (by omega) (by omega)); omega) (by clear rl21_0 rl21_1 hle; have := (i_x_this_start).1; omega) (by clear rl21_1 hle; have := (i_x_this_start).1; have := (i_x_this_start).2; have := (j13).2; have : x30.toInt = x_this_start.toInt + v3c21.toInt := (by rw [ex30]; exact iv_tadd (by omega) (by omega)); omega) (by clear rl21_1; have := (j13).2; have := (i_x_this_start).1; have := (i_x_this_start).2; have := lt_i (iv_nle c16); have : x15.toInt = x_this_start.toInt + v3c21.toInt := (by rw [ex15]; exact iv_tadd (by omega) (by omega)); have : x30.toInt = x_this_start.toInt + v3c21.toInt := (by rw [ex30]; exact iv_tadd (by omega) (by omega)); omega) ex32 hr29 c33 (by clear rl21_1 hle; have := (j13).2; have : (1 : Int32).toInt = 1 := rfl; have : x44.toInt = v3c21.toInt + (1 : Int32).toInt := (by rw [ex44]; exact iv_tadd (by omega) (by omega)); omega)) (lv_sub hl [1, 2, 3, 0] rfl)
      refine lv_iload_n hx hb dX4_findWord_2 rfl (lv_at hl 1 rfl) ?_
      refine va_gets hx hb hX.2.2.2.2.1 (va_S.rf (A := fun _ => False)) hown (hts (.fieldLink RX4 245 "GutterSeats$Reader" "WORDS" "[LGutterSeats$Word;") (List.mem_cons_of_mem _ (List.mem_append_left _ (List.mem_append_left _ (List.mem_of_getElem? (i := 0) (by first | rfl | decide +kernel)))))) (fun _ h9 => h9) dX4_findWord_3 ?_
      refine va_tlen (v := 17) hx hb hX.2.2.2.2.2.1 (va_S.rf (A := fun _ => False)) rfl dX4_findWord_6 ?_
      refine lv_icmp_ge (tgt := 100) hx hb dX4_findWord_7 (by decide) (fun c45 => ?_) (fun c45 => ?_)
      ·
        have j46 : iv v1c2 17 20 := iv_leR c45 (iv_lit (17 : Int32) (by decide) : iv (17 : Int32) 17 17) i_v1c2 (by decide)
        refine lv_null hx hb dX4_findWord_100 ?_
        exact hE none _ _ ⟨ew_none, (ux_fw_none rl2_0 (by clear hle; have := (j46).1; omega))⟩ dX4_findWord_101
      ·
        have j47 : iv v1c2 0 16 := iv_ltL (iv_nle c45) i_v1c2 (iv_lit (17 : Int32) (by decide) : iv (17 : Int32) 17 17) (by decide)
        refine va_gets hx hb hX.2.2.2.2.1 (va_S.rf (A := fun _ => False)) hown (hts (.fieldLink RX4 245 "GutterSeats$Reader" "WORDS" "[LGutterSeats$Word;") (List.mem_cons_of_mem _ (List.mem_append_left _ (List.mem_append_left _ (List.mem_of_getElem? (i := 0) (by first | rfl | decide +kernel)))))) (fun _ h9 => h9) dX4_findWord_10 ?_
        refine lv_iload_n hx hb dX4_findWord_13 rfl (lv_at hl 1 rfl) ?_
        have n48 : vp_in v1c2 17 := iv_in j47 (by decide) (by decide)
        refine vb_tq (v := .ref (ad v1c2.toNatClampNeg)) hx hb hX.2.2.2.2.2.1 (va_S.rf (A := fun _ => False)) n48 rfl dX4_findWord_14 ?_
        have h49 : v1c2.toNatClampNeg < 17 := (Nat.not_le.mp fun q => n48 (Or.inr q))
        refine va_getX (i := v1c2.toNatClampNeg) hx hb hX.2.2.1 h49 (va_S.rf (A := fun _ => False)) hown (hts (.fieldLink RX4 249 "GutterSeats$Word" "letters" "Ljava/lang/String;") (List.mem_cons_of_mem _ (List.mem_append_left _ (List.mem_append_left _ (List.mem_of_getElem? (i := 1) (by first | rfl | decide +kernel)))))) (fun _ h9 => h9) dX4_findWord_15 ?_
        have s_sw_v1c2_toNatClampNeg := hX.2.2.2.1 v1c2.toNatClampNeg h49
        have hn_sw_v1c2_toNatClampNeg := s_sw_v1c2_toNatClampNeg.1
        refine lv_astore_n (lv' := [(2, .ref (sw v1c2.toNatClampNeg)), (0, .ref q_this), (1, .int v1c2)]) hx hb dX4_findWord_18 rfl hl (by decide) rfl (fun ls hl => ?_)
        refine lv_iconst (v := 0) hx hb dX4_findWord_19 (by decide) ?_
        refine lv_istore_n (lv' := [(3, .int (0 : Int32)), (2, .ref (sw v1c2.toNatClampNeg)), (0, .ref q_this), (1, .int v1c2)]) hx hb dX4_findWord_20 rfl hl (by decide) rfl (fun ls hl => ?_)
        exact K21 _ v1c2 (0 : Int32) ls j47 (iv_lit (0 : Int32) (by decide) : iv (0 : Int32) 0 40) (Nat.lt_succ_self _) hm2 (by clear hle; have : (0 : Int32).toInt = 0 := rfl; omega) (by have := hle; have := hn_sw_v1c2_toNatClampNeg; have : (0 : Int32).toInt = 0 := rfl; have := (i_x_this_at).1; have := (i_x_this_at).2; have := (i_x_this_length).1; have := (i_x_this_length).2; omega) rl2_0 (ux_pm_0 rfl) (lv_sub hl [2, 3, 1, 0] rfl)
  refine lv_iconst (v := 0) hx hb dX4_findWord_0 (by decide) ?_
  refine lv_istore_n (lv' := [(1, .int (0 : Int32)), (0, .ref q_this)]) hx hb dX4_findWord_1 rfl hl (by decide) rfl (fun ls hl => ?_)
  exact K2 _ (0 : Int32) ls (iv_lit (0 : Int32) (by decide) : iv (0 : Int32) 0 20) (Nat.lt_succ_self _) (ux_nf_0 rfl) (lv_sub hl [1, 0] rfl)
abbrev rm_Reader_findNumber : Room := { frames := 0, cells := 0, slots := 0, locals := 0 }
set_option maxHeartbeats 4000000 in
set_option maxRecDepth 100000 in
theorem c_Reader_findNumber (l : Launch) (D : va_G) (ct : Nat → ClassId) (ad : Nat → Nat) (q_this q_this_text q_this_draft q_this_rule : Nat) (x_this_place x_this_length x_this_at x_this_kind x_this_start x_this_number x_this_found : Int32) (f_this_text : Nat → Int32) (w_this_word : Option Nat) (i_x_this_length : iv x_this_length 0 700) (i_x_this_at : iv x_this_at 0 700) (i_x_this_start : iv x_this_start 0 700) (e_w_this_word : ew w_this_word) (i_x_this_number : iv x_this_number 0 10006) (i_x_this_found : iv x_this_found 0 5) (hdg : dg f_this_text x_this_start.toNatClampNeg x_this_at.toNatClampNeg) (hle : x_this_start.toInt ≤ x_this_at.toInt) (hle2 : x_this_at.toInt ≤ x_this_length.toInt) : cP l yX4_findNumber wsX4_findNumber rm_Reader_findNumber D ct [(q_this, .inr (4, [.ref q_this_draft, .int x_this_place, .ref q_this_text, .int x_this_length, .int x_this_at, .int x_this_kind, .int x_this_start, (va_re ad w_this_word), .int x_this_number, .ref q_this_rule, .int x_this_found])), (q_this_text, .inl (ct 1, 700, .inl f_this_text))] [.ref q_this] (fun r : Int32 => iv r 0 10000 ∧ r.toInt = (ux_tz f_this_text x_this_length x_this_start x_this_at : Int)) := by
  refine cP_of (cc := cX4_findNumber) (maxL := 3) (by decide) rfl (Nat.le_of_ble_eq_true rfl) ?_
  intro p e s m args below meth c Q hx hb hml hts hown hK hP hE ls hl
  have hl : lv_has ls 3 [(0, .ref q_this)] := hl
  have hin_Reader : ∀ w ∈ u_ws RX4 TX4 11, w ∈ wsX4_findNumber := fun w h => List.mem_cons_of_mem _ (List.mem_append_right _ (h))
  have K24 : ∀ (n24 : Nat) (v1c24 v2c24 : Int32) (ls : Array Slot), iv v2c24 0 700 → (700 - v2c24.toInt).toNat < n24 → (v2c24.toInt - x_this_start.toInt = 0 ∧ 0 ≤ v1c24.toInt ∧ v1c24.toInt ≤ 0) ∨ (v2c24.toInt - x_this_start.toInt = 1 ∧ 0 ≤ v1c24.toInt ∧ v1c24.toInt ≤ 9) ∨ (v2c24.toInt - x_this_start.toInt = 2 ∧ 0 ≤ v1c24.toInt ∧ v1c24.toInt ≤ 99) ∨ (v2c24.toInt - x_this_start.toInt = 3 ∧ 0 ≤ v1c24.toInt ∧ v1c24.toInt ≤ 999) ∨ (v2c24.toInt - x_this_start.toInt = 4 ∧ 0 ≤ v1c24.toInt ∧ v1c24.toInt ≤ 9999) → x_this_at.toInt - x_this_start.toInt ≤ 4 → v2c24.toInt ≤ x_this_at.toInt → ux_ds f_this_text x_this_length x_this_start v2c24 v1c24 → lv_has ls 3 [(0, .ref q_this), (1, .int v1c24), (2, .int v2c24)] → W p l e rm_Reader_findNumber s m args below meth c s.heap [] 0 0 Q (F0 m 24 ls []) := by
    intro n24
    induction n24 with
    | zero => intro v1c24 v2c24 ls i_v2c24 hm24 rl24_0 rl24_1 rl24_2 rl24_3 hl; exact absurd hm24 (Nat.not_lt_zero _)
    | succ n24 ih24 =>
      intro v1c24 v2c24 ls i_v2c24 hm24 rl24_0 rl24_1 rl24_2 rl24_3 hl
      refine lv_iload_n hx hb dX4_findNumber_24 rfl (lv_at hl 2 rfl) ?_
      refine lv_aload_n hx hb dX4_findNumber_25 rfl (lv_at hl 0 rfl) ?_
      refine va_get (D := D) (ci := 4) (v := .int x_this_at) (C := RX4) (T := TX4) (N := 11) hx hb hts hin_Reader hown hK hP 0 rfl rfl 4 (by decide) (hts (.fieldLink RX4 104 "GutterSeats$Reader" "at" "I") (List.mem_cons_of_mem _ (List.mem_append_left _ (List.mem_of_getElem? (i := 0) (by first | rfl | decide +kernel))))) (fun _ h9 => h9) rfl dX4_findNumber_26 ?_
      refine lv_icmp_ge (tgt := 53) hx hb dX4_findNumber_29 (by decide) (fun c1 => ?_) (fun c1 => ?_)
      ·
        refine lv_iload_n hx hb dX4_findNumber_53 rfl (lv_at hl 1 rfl) ?_
        exact hE _ _ _ ⟨(show iv v1c24 0 10000 from by unfold iv; clear rl24_1 rl24_2 hle hle2; omega), (show v1c24.toInt = (ux_tz f_this_text x_this_length x_this_start x_this_at : Int) from (ux_tz_of rl24_3 (by clear rl24_0 rl24_1 hle hle2; have := le_i c1; omega) (by clear rl24_0 rl24_2 hle hle2; omega) (by clear rl24_0 rl24_1 rl24_2 hle hle2; have := (i_x_this_start).1; omega)))⟩ dX4_findNumber_54
      ·
        have j2 : iv v2c24 0 699 := iv_ltL (iv_nle c1) i_v2c24 i_x_this_at (by decide)
        have j3 : iv x_this_at 1 700 := iv_ltR (iv_nle c1) i_v2c24 i_x_this_at (by decide)
        refine lv_bipush (v := 10) hx hb dX4_findNumber_32 (by decide) ?_
        refine lv_iload_n hx hb dX4_findNumber_34 rfl (lv_at hl 1 rfl) ?_
        refine lv_imul hx hb dX4_findNumber_35 ?_
        refine lv_topi (fun x4 ex4 => ?_)
        refine lv_aload_n hx hb dX4_findNumber_36 rfl (lv_at hl 0 rfl) ?_
        refine va_get (D := D) (ci := 4) (v := .ref q_this_text) (C := RX4) (T := TX4) (N := 11) hx hb hts hin_Reader hown hK hP 0 rfl rfl 2 (by decide) (hts (.fieldLink RX4 22 "GutterSeats$Reader" "text" "[B") (List.mem_cons_of_mem _ (List.mem_append_left _ (List.mem_of_getElem? (i := 2) (by first | rfl | decide +kernel))))) (fun _ h9 => h9) rfl dX4_findNumber_37 ?_
        refine lv_iload_n hx hb dX4_findNumber_40 rfl (lv_at hl 2 rfl) ?_
        have n5 : vp_in v2c24 700 := iv_in j2 (by decide) (by decide)
        refine va_bald hx hb hK hP 1 1 rfl rfl n5 dX4_findNumber_41 ?_
        refine lv_topi (fun x6 ex6 => ?_)
        have i_x6 : iv x6 48 57 := dg_at hdg ex6 (by clear rl24_0 rl24_1 rl24_2 hle hle2; have := (j2).1; omega) (by clear rl24_1 rl24_2 hle hle2; omega) (by clear rl24_0 rl24_1 rl24_2 hle hle2; have := lt_i (iv_nle c1); omega)
        refine lv_iadd hx hb dX4_findNumber_42 ?_
        refine lv_topi (fun x7 ex7 => ?_)
        refine lv_bipush (v := 48) hx hb dX4_findNumber_43 (by decide) ?_
        refine lv_isub hx hb dX4_findNumber_45 ?_
        refine lv_topi (fun x8 ex8 => ?_)
        refine lv_istore_n (lv' := [(1, .int x8), (0, .ref q_this), (2, .int v2c24)]) hx hb dX4_findNumber_46 rfl hl (by decide) rfl (fun ls hl => ?_)
        obtain ⟨x9, ex9⟩ : ∃ z : Int32, z = v2c24 + (1 : Int32) := ⟨_, rfl⟩
        refine lv_iinc (v := x9) (lv' := [(2, .int x9), (1, .int x8), (0, .ref q_this)]) hx hb dX4_findNumber_47 hl (k := 2) rfl (by rw [ex9]; rfl) (by decide) rfl (fun ls hl => ?_)
        have i_x9 : iv x9 1 700 := iv_add ex9 j2 (iv_lit (1 : Int32) (by decide) : iv (1 : Int32) 1 1) (by decide) (by decide) (by decide) (by decide)
        refine lv_goto (tgt := 24) hx hb dX4_findNumber_50 (by decide) ?_
        exact ih24 x8 x9 ls (iv_w i_x9 (by decide) (by decide)) (ms_up ex9 j2 (by decide) (by decide) hm24) (by have := rl24_0; have := rl24_1; have := rl24_2; have := hdg; have := hle; have := hle2; have := (i_x9).1; have := (i_x9).2; have := (i_x_this_start).1; have := (i_x_this_start).2; have := iv_rng x8; have := (j3).1; have := (j3).2; have := (i_x_this_length).1; have := (i_x_this_length).2; have := (j2).1; have := (j2).2; have := iv_rng v1c24; have : (1 : Int32).toInt = 1 := rfl; have := iv_rng x7; have : (48 : Int32).toInt = 48 := rfl; have := iv_rng x4; have := (i_x6).1; have := (i_x6).2; have := lt_i (iv_nle c1); have : x4.toInt = 10 * v1c24.toInt := (by have q : (10 : Int32).toInt = 10 := rfl; rw [ex4, iv_tmul (by rw [q]; omega) (by rw [q]; omega), q]); have : x7.toInt = x4.toInt + x6.toInt := (by rw [ex7]; exact iv_tadd (by omega) (by omega)); have : x8.toInt = x7.toInt - (48 : Int32).toInt := (by rw [ex8]; exact iv_tsub (by omega) (by omega)); have : x9.toInt = v2c24.toInt + (1 : Int32).toInt := (by rw [ex9]; exact iv_tadd (by omega) (by omega)); omega) rl24_1 (by clear rl24_0 rl24_1 rl24_2 hle hle2; have := (j2).1; have := (j2).2; have : (1 : Int32).toInt = 1 := rfl; have := lt_i (iv_nle c1); have : x9.toInt = v2c24.toInt + (1 : Int32).toInt := (by rw [ex9]; exact iv_tadd (by omega) (by omega)); omega) (ux_ds_add rl24_3 (by clear rl24_0 rl24_1 rl24_2 hle hle2; have := (i_x_this_start).1; omega) (by clear rl24_1 rl24_2 hle hle2; omega) (by clear rl24_0 rl24_1 rl24_2 hle; have := lt_i (iv_nle c1); omega) ex6 i_x6 (by clear rl24_1 rl24_2 hle hle2; have := (i_x6).1; have := (i_x6).2; have : (48 : Int32).toInt = 48 := rfl; have : x4.toInt = 10 * v1c24.toInt := (by have q : (10 : Int32).toInt = 10 := rfl; rw [ex4, iv_tmul (by rw [q]; omega) (by rw [q]; omega), q]); have : x7.toInt = x4.toInt + x6.toInt := (by rw [ex7]; exact iv_tadd (by omega) (by omega)); have : x8.toInt = x7.toInt - (48 : Int32).toInt := (by rw [ex8]; exact iv_tsub (by omega) (by omega)); omega) (by clear rl24_0 rl24_1 rl24_2 hle hle2; have := (j2).1; have := (j2).2; have : (1 : Int32).toInt = 1 := rfl; have : x9.toInt = v2c24.toInt + (1 : Int32).toInt := (by rw [ex9]; exact iv_tadd (by omega) (by omega)); omega)) (lv_sub hl [2, 1, 0] rfl)
  refine lv_aload_n hx hb dX4_findNumber_0 rfl (lv_at hl 0 rfl) ?_
  refine va_get (D := D) (ci := 4) (v := .int x_this_at) (C := RX4) (T := TX4) (N := 11) hx hb hts hin_Reader hown hK hP 0 rfl rfl 4 (by decide) (hts (.fieldLink RX4 104 "GutterSeats$Reader" "at" "I") (List.mem_cons_of_mem _ (List.mem_append_left _ (List.mem_of_getElem? (i := 0) (by first | rfl | decide +kernel))))) (fun _ h9 => h9) rfl dX4_findNumber_1 ?_
  refine lv_aload_n hx hb dX4_findNumber_4 rfl (lv_at hl 0 rfl) ?_
  refine va_get (D := D) (ci := 4) (v := .int x_this_start) (C := RX4) (T := TX4) (N := 11) hx hb hts hin_Reader hown hK hP 0 rfl rfl 6 (by decide) (hts (.fieldLink RX4 113 "GutterSeats$Reader" "start" "I") (List.mem_cons_of_mem _ (List.mem_append_left _ (List.mem_of_getElem? (i := 1) (by first | rfl | decide +kernel))))) (fun _ h9 => h9) rfl dX4_findNumber_5 ?_
  refine lv_isub hx hb dX4_findNumber_8 ?_
  refine lv_topi (fun x10 ex10 => ?_)
  have i_x10 : iv x10 (-700) 700 := iv_sub ex10 i_x_this_at i_x_this_start (by decide) (by decide) (by decide) (by decide)
  refine lv_iconst (v := 4) hx hb dX4_findNumber_9 (by decide) ?_
  refine lv_icmp_le (tgt := 17) hx hb dX4_findNumber_10 (by decide) (fun c11 => ?_) (fun c11 => ?_)
  ·
    have j12 : iv x10 (-700) 4 := iv_leL c11 i_x10 (iv_lit (4 : Int32) (by decide) : iv (4 : Int32) 4 4) (by decide)
    refine lv_iconst (v := 0) hx hb dX4_findNumber_17 (by decide) ?_
    refine lv_istore_n (lv' := [(1, .int (0 : Int32)), (0, .ref q_this)]) hx hb dX4_findNumber_18 rfl hl (by decide) rfl (fun ls hl => ?_)
    refine lv_aload_n hx hb dX4_findNumber_19 rfl (lv_at hl 1 rfl) ?_
    refine va_get (D := D) (ci := 4) (v := .int x_this_start) (C := RX4) (T := TX4) (N := 11) hx hb hts hin_Reader hown hK hP 0 rfl rfl 6 (by decide) (hts (.fieldLink RX4 113 "GutterSeats$Reader" "start" "I") (List.mem_cons_of_mem _ (List.mem_append_left _ (List.mem_of_getElem? (i := 1) (by first | rfl | decide +kernel))))) (fun _ h9 => h9) rfl dX4_findNumber_20 ?_
    refine lv_istore_n (lv' := [(2, .int x_this_start), (1, .int (0 : Int32)), (0, .ref q_this)]) hx hb dX4_findNumber_23 rfl hl (by decide) rfl (fun ls hl => ?_)
    exact K24 _ (0 : Int32) x_this_start ls i_x_this_start (Nat.lt_succ_self _) (by have := hdg; have := hle; have := hle2; have := (i_x_this_start).1; have := (i_x_this_start).2; have : (0 : Int32).toInt = 0 := rfl; have := (i_x_this_at).1; have := (i_x_this_at).2; have := (i_x_this_length).1; have := (i_x_this_length).2; have := (j12).1; have := (j12).2; have : (4 : Int32).toInt = 4 := rfl; have := le_i c11; have : x10.toInt = x_this_at.toInt - x_this_start.toInt := (by rw [ex10]; exact iv_tsub (by omega) (by omega)); omega) (by clear hle2; have := (i_x_this_at).2; have := (i_x_this_start).1; have := (j12).2; have : x10.toInt = x_this_at.toInt - x_this_start.toInt := (by rw [ex10]; exact iv_tsub (by omega) (by omega)); omega) hle (ux_ds_0 rfl rfl) (lv_sub hl [2, 1, 0] rfl)
  ·
    have j13 : iv x10 5 700 := iv_ltR (iv_nle c11) (iv_lit (4 : Int32) (by decide) : iv (4 : Int32) 4 4) i_x10 (by decide)
    refine lv_sipush (v := 10000) hx hb dX4_findNumber_13 (by decide) ?_
    exact hE _ _ _ ⟨(iv_lit (10000 : Int32) (by decide) : iv (10000 : Int32) 0 10000), (show (10000 : Int32).toInt = (ux_tz f_this_text x_this_length x_this_start x_this_at : Int) from (ux_tz_big (by clear hle hle2; have := (i_x_this_start).1; omega) (by clear hle2; have := (i_x_this_at).2; have := (i_x_this_start).1; have := (j13).1; have : x10.toInt = x_this_at.toInt - x_this_start.toInt := (by rw [ex10]; exact iv_tsub (by omega) (by omega)); omega) rfl))⟩ dX4_findNumber_16
abbrev rm_Reader_advance : Room := { frames := 5, cells := 0, slots := 0, locals := 164 }
set_option maxHeartbeats 4000000 in
set_option maxRecDepth 100000 in
theorem c_Reader_advance (l : Launch) (D : va_G) (ct : Nat → ClassId) (ad sw : Nat → Nat) (wa : Nat) (gq : Nat) (q_this q_this_text q_this_draft q_this_rule : Nat) (sz : Nat) (x_this_place x_this_length x_this_at x_this_kind x_this_start x_this_number x_this_found : Int32) (f_this_text : Nat → Int32) (w_this_word : Option Nat) (i_x_this_length : iv x_this_length 0 700) (i_x_this_at : iv x_this_at 0 700) (i_x_this_start : iv x_this_start 0 700) (e_w_this_word : ew w_this_word) (i_x_this_number : iv x_this_number 0 10006) (i_x_this_found : iv x_this_found 0 5) (hq : x_this_at.toInt.toNat = gq) (hf0 : x_this_found.toInt = 0) (hal : x_this_at.toInt ≤ x_this_length.toInt) : eV (ER ad sw wa) l yX4_advance wsX4_advance rm_Reader_advance D ct [(q_this, .inr (4, [.ref q_this_draft, .int x_this_place, .ref q_this_text, .int x_this_length, .int x_this_at, .int x_this_kind, .int x_this_start, (va_re ad w_this_word), .int x_this_number, .ref q_this_rule, .int x_this_found])), (q_this_text, .inl (ct 1, 700, .inl f_this_text))] sz [.ref q_this] (fun u : Int32 × Int32 × Int32 × Int32 × (Option Nat) => iv u.1 0 700 ∧ iv u.2.1 0 700 ∧ iv u.2.2.2.1 0 10006 ∧ ew u.2.2.2.2 ∧ ux_S f_this_text x_this_length u.1 u.2.1 u.2.2.1 u.2.2.2.2 u.2.2.2.1 x_this_found x_this_place (0, gq) ∧ x_this_at.toInt ≤ u.2.1.toInt ∧ u.2.1.toInt ≤ u.1.toInt ∧ u.1.toInt ≤ x_this_length.toInt) (fun u : Int32 × Int32 × Int32 × Int32 × (Option Nat) => [(q_this, .inr (4, [.ref q_this_draft, .int x_this_place, .ref q_this_text, .int x_this_length, .int u.1, .int u.2.2.1, .int u.2.1, (va_re ad u.2.2.2.2), .int u.2.2.2.1, .ref q_this_rule, .int x_this_found])), (q_this_text, .inl (ct 1, 700, .inl f_this_text))]) := by
  refine eV_of (cc := cX4_advance) (maxL := 1) (by decide) rfl (Nat.le_of_ble_eq_true rfl) ?_
  intro p e s m args below meth c Q A hx hb hml hts hown hK hP hD hA hX hE ls hl
  have hS : va_S A s.heap s.heap [] := va_S.rf
  have hP : va_P D vwCl [(q_this, .inr (4, [.ref q_this_draft, .int x_this_place, .ref q_this_text, .int x_this_length, .int x_this_at, .int x_this_kind, .int x_this_start, (va_re ad w_this_word), .int x_this_number, .ref q_this_rule, .int x_this_found])), (q_this_text, .inl (ct 1, 700, .inl f_this_text))] s.heap := hP
  have hD : va_D A [(q_this, .inr (4, [.ref q_this_draft, .int x_this_place, .ref q_this_text, .int x_this_length, .int x_this_at, .int x_this_kind, .int x_this_start, (va_re ad w_this_word), .int x_this_number, .ref q_this_rule, .int x_this_found])), (q_this_text, .inl (ct 1, 700, .inl f_this_text))] := hD
  have hl : lv_has ls 1 [(0, .ref q_this)] := hl
  have hin_Reader : ∀ w ∈ u_ws RX4 TX4 11, w ∈ wsX4_advance := fun w h => List.mem_cons_of_mem _ (List.mem_append_right _ (h))
  refine lv_aload_n hx hb dX4_advance_0 rfl (lv_at hl 0 rfl) ?_
  refine lv_aload_n hx hb dX4_advance_1 rfl (lv_at hl 0 rfl) ?_
  refine lv_aload_n hx hb dX4_advance_2 rfl (lv_at hl 0 rfl) ?_
  refine va_get (D := D) (ci := 4) (v := .int x_this_at) (C := RX4) (T := TX4) (N := 11) hx hb hts hin_Reader hown hK hP 0 rfl rfl 4 (by decide) (hts (.fieldLink RX4 104 "GutterSeats$Reader" "at" "I") (List.mem_cons_of_mem _ (List.mem_append_left _ (List.mem_append_left _ (List.mem_of_getElem? (i := 0) (by first | rfl | decide +kernel)))))) (fun _ h9 => h9) rfl dX4_advance_3 ?_
  refine lv_iconst (v := 3) hx hb dX4_advance_6 (by decide) ?_
  refine kPV (rest := [.ref q_this]) (ci := 4) ⟨hx, hb, hml, hown, hts⟩ (c_Reader_endOfRow l D ct ad q_this q_this_text q_this_draft q_this_rule x_this_place x_this_length x_this_at x_this_kind x_this_start x_this_number x_this_found f_this_text w_this_word x_this_at (3 : Int32) i_x_this_length i_x_this_at i_x_this_start e_w_this_word i_x_this_number i_x_this_found i_x_this_at hal) (cwV 2 hts gX4_advance_X4_endOfRow rfl rfl rfl (by first | exact hdX4_endOfRow_2 | decide +kernel) ⟨(Nat.le_of_ble_eq_true rfl), (Nat.le_of_ble_eq_true rfl)⟩) hK hP [0, 1] rfl rfl rfl rfl rfl hl.1 rfl (Nat.le_of_ble_eq_true rfl) dX4_advance_7 ⟨(Nat.le_of_ble_eq_true rfl), (Nat.le_of_ble_eq_true rfl)⟩ (fun r1 hr1 => ?_)
  have i_r1 : iv r1 0 700 := hr1.1
  have g2 : ux_er f_this_text x_this_length x_this_at r1 (3 : Int32) := hr1.2.1
  have g3 : x_this_at.toInt ≤ r1.toInt := hr1.2.2.1
  have g4 : r1.toInt ≤ x_this_length.toInt := hr1.2.2.2
  refine va_put (D := D) (ci := 4) (v := .int r1) (ty := .int) (C := RX4) (T := TX4) (N := 11) hx hb hts hin_Reader tyX4 tyX4_ok nmX4 hown hK hP hD hS 0 rfl rfl 4 (by decide) (hts (.fieldLink RX4 104 "GutterSeats$Reader" "at" "I") (List.mem_cons_of_mem _ (List.mem_append_left _ (List.mem_append_left _ (List.mem_of_getElem? (i := 0) (by first | rfl | decide +kernel)))))) (fun _ h9 => h9) rfl (by first | exact tyX4_ok 4 (by decide) | decide +kernel) rfl rfl (Nat.le_of_ble_eq_true rfl) dX4_advance_10 (fun H locs hP hD hS => ?_)
  have hP : va_P D vwCl [(q_this, .inr (4, [.ref q_this_draft, .int x_this_place, .ref q_this_text, .int x_this_length, .int r1, .int x_this_kind, .int x_this_start, (va_re ad w_this_word), .int x_this_number, .ref q_this_rule, .int x_this_found])), (q_this_text, .inl (ct 1, 700, .inl f_this_text))] H := hP
  have hD : va_D A [(q_this, .inr (4, [.ref q_this_draft, .int x_this_place, .ref q_this_text, .int x_this_length, .int r1, .int x_this_kind, .int x_this_start, (va_re ad w_this_word), .int x_this_number, .ref q_this_rule, .int x_this_found])), (q_this_text, .inl (ct 1, 700, .inl f_this_text))] := hD
  refine lv_aload_n hx hb dX4_advance_13 rfl (lv_at hl 0 rfl) ?_
  refine lv_aload_n hx hb dX4_advance_14 rfl (lv_at hl 0 rfl) ?_
  refine va_get (D := D) (ci := 4) (v := .int r1) (C := RX4) (T := TX4) (N := 11) hx hb hts hin_Reader hown hK hP 0 rfl rfl 4 (by decide) (hts (.fieldLink RX4 104 "GutterSeats$Reader" "at" "I") (List.mem_cons_of_mem _ (List.mem_append_left _ (List.mem_append_left _ (List.mem_of_getElem? (i := 0) (by first | rfl | decide +kernel)))))) (fun _ h9 => h9) rfl dX4_advance_15 ?_
  refine va_put (D := D) (ci := 4) (v := .int r1) (ty := .int) (C := RX4) (T := TX4) (N := 11) hx hb hts hin_Reader tyX4 tyX4_ok nmX4 hown hK hP hD hS 0 rfl rfl 6 (by decide) (hts (.fieldLink RX4 113 "GutterSeats$Reader" "start" "I") (List.mem_cons_of_mem _ (List.mem_append_left _ (List.mem_append_left _ (List.mem_of_getElem? (i := 1) (by first | rfl | decide +kernel)))))) (fun _ h9 => h9) rfl (by first | exact tyX4_ok 6 (by decide) | decide +kernel) rfl rfl (Nat.le_of_ble_eq_true rfl) dX4_advance_18 (fun H locs hP hD hS => ?_)
  have hP : va_P D vwCl [(q_this, .inr (4, [.ref q_this_draft, .int x_this_place, .ref q_this_text, .int x_this_length, .int r1, .int x_this_kind, .int r1, (va_re ad w_this_word), .int x_this_number, .ref q_this_rule, .int x_this_found])), (q_this_text, .inl (ct 1, 700, .inl f_this_text))] H := hP
  have hD : va_D A [(q_this, .inr (4, [.ref q_this_draft, .int x_this_place, .ref q_this_text, .int x_this_length, .int r1, .int x_this_kind, .int r1, (va_re ad w_this_word), .int x_this_number, .ref q_this_rule, .int x_this_found])), (q_this_text, .inl (ct 1, 700, .inl f_this_text))] := hD
  refine lv_aload_n hx hb dX4_advance_21 rfl (lv_at hl 0 rfl) ?_
  refine lv_null hx hb dX4_advance_22 ?_
  refine va_put (D := D) (ci := 4) (v := .null) (ty := .object "GutterSeats$Word") (C := RX4) (T := TX4) (N := 11) hx hb hts hin_Reader tyX4 tyX4_ok nmX4 hown hK hP hD hS 0 rfl rfl 7 (by decide) (hts (.fieldLink RX4 43 "GutterSeats$Reader" "word" "LGutterSeats$Word;") (List.mem_cons_of_mem _ (List.mem_append_left _ (List.mem_append_left _ (List.mem_of_getElem? (i := 2) (by first | rfl | decide +kernel)))))) (fun _ h9 => h9) rfl (by first | exact tyX4_ok 7 (by decide) | decide +kernel) rfl rfl (Nat.le_of_ble_eq_true rfl) dX4_advance_23 (fun H locs hP hD hS => ?_)
  have hP : va_P D vwCl [(q_this, .inr (4, [.ref q_this_draft, .int x_this_place, .ref q_this_text, .int x_this_length, .int r1, .int x_this_kind, .int r1, (va_re ad none), .int x_this_number, .ref q_this_rule, .int x_this_found])), (q_this_text, .inl (ct 1, 700, .inl f_this_text))] H := hP
  have hD : va_D A [(q_this, .inr (4, [.ref q_this_draft, .int x_this_place, .ref q_this_text, .int x_this_length, .int r1, .int x_this_kind, .int r1, (va_re ad none), .int x_this_number, .ref q_this_rule, .int x_this_found])), (q_this_text, .inl (ct 1, 700, .inl f_this_text))] := hD
  refine lv_aload_n hx hb dX4_advance_26 rfl (lv_at hl 0 rfl) ?_
  refine va_get (D := D) (ci := 4) (v := .int r1) (C := RX4) (T := TX4) (N := 11) hx hb hts hin_Reader hown hK hP 0 rfl rfl 4 (by decide) (hts (.fieldLink RX4 104 "GutterSeats$Reader" "at" "I") (List.mem_cons_of_mem _ (List.mem_append_left _ (List.mem_append_left _ (List.mem_of_getElem? (i := 0) (by first | rfl | decide +kernel)))))) (fun _ h9 => h9) rfl dX4_advance_27 ?_
  refine lv_aload_n hx hb dX4_advance_30 rfl (lv_at hl 0 rfl) ?_
  refine va_get (D := D) (ci := 4) (v := .int x_this_length) (C := RX4) (T := TX4) (N := 11) hx hb hts hin_Reader hown hK hP 0 rfl rfl 3 (by decide) (hts (.fieldLink RX4 101 "GutterSeats$Reader" "length" "I") (List.mem_cons_of_mem _ (List.mem_append_left _ (List.mem_append_left _ (List.mem_of_getElem? (i := 3) (by first | rfl | decide +kernel)))))) (fun _ h9 => h9) rfl dX4_advance_31 ?_
  refine lv_icmp_lt (tgt := 43) hx hb dX4_advance_34 (by decide) (fun c5 => ?_) (fun c5 => ?_)
  ·
    have j6 : iv r1 0 699 := iv_ltL c5 i_r1 i_x_this_length (by decide)
    have j7 : iv x_this_length 1 700 := iv_ltR c5 i_r1 i_x_this_length (by decide)
    refine lv_aload_n hx hb dX4_advance_43 rfl (lv_at hl 0 rfl) ?_
    refine lv_aload_n hx hb dX4_advance_44 rfl (lv_at hl 0 rfl) ?_
    refine va_get (D := D) (ci := 4) (v := .ref q_this_text) (C := RX4) (T := TX4) (N := 11) hx hb hts hin_Reader hown hK hP 0 rfl rfl 2 (by decide) (hts (.fieldLink RX4 22 "GutterSeats$Reader" "text" "[B") (List.mem_cons_of_mem _ (List.mem_append_left _ (List.mem_append_left _ (List.mem_of_getElem? (i := 5) (by first | rfl | decide +kernel)))))) (fun _ h9 => h9) rfl dX4_advance_45 ?_
    refine lv_aload_n hx hb dX4_advance_48 rfl (lv_at hl 0 rfl) ?_
    refine va_get (D := D) (ci := 4) (v := .int r1) (C := RX4) (T := TX4) (N := 11) hx hb hts hin_Reader hown hK hP 0 rfl rfl 4 (by decide) (hts (.fieldLink RX4 104 "GutterSeats$Reader" "at" "I") (List.mem_cons_of_mem _ (List.mem_append_left _ (List.mem_append_left _ (List.mem_of_getElem? (i := 0) (by first | rfl | decide +kernel)))))) (fun _ h9 => h9) rfl dX4_advance_49 ?_
    have n8 : vp_in r1 700 := iv_in j6 (by decide) (by decide)
    refine va_bald hx hb hK hP 1 1 rfl rfl n8 dX4_advance_52 ?_
    refine lv_topi (fun x9 ex9 => ?_)
    refine kPS (rest := [.ref q_this]) ⟨hx, hb, hml, hown, hts⟩ (c_Reader_kindOf l D ct x9) (va_cwS 1 hts gX4_advance_X4_kindOf rfl rfl rfl (by first | exact hdX4_kindOf_1.2 | decide +kernel) ⟨(Nat.le_of_ble_eq_true rfl), (Nat.le_of_ble_eq_true rfl)⟩) hK hP [] rfl rfl hl.1 rfl (Nat.le_of_ble_eq_true rfl) dX4_advance_53 ⟨(Nat.le_of_ble_eq_true rfl), (Nat.le_of_ble_eq_true rfl)⟩ (fun r10 hr10 => ?_)
    have g11 : r10.toInt = (ux_kb x9 : Int) := hr10
    refine va_put (D := D) (ci := 4) (v := .int r10) (ty := .int) (C := RX4) (T := TX4) (N := 11) hx hb hts hin_Reader tyX4 tyX4_ok nmX4 hown hK hP hD hS 0 rfl rfl 5 (by decide) (hts (.fieldLink RX4 37 "GutterSeats$Reader" "kind" "I") (List.mem_cons_of_mem _ (List.mem_append_left _ (List.mem_append_left _ (List.mem_of_getElem? (i := 4) (by first | rfl | decide +kernel)))))) (fun _ h9 => h9) rfl (by first | exact tyX4_ok 5 (by decide) | decide +kernel) rfl rfl (Nat.le_of_ble_eq_true rfl) dX4_advance_56 (fun H locs hP hD hS => ?_)
    have hP : va_P D vwCl [(q_this, .inr (4, [.ref q_this_draft, .int x_this_place, .ref q_this_text, .int x_this_length, .int r1, .int r10, .int r1, (va_re ad none), .int x_this_number, .ref q_this_rule, .int x_this_found])), (q_this_text, .inl (ct 1, 700, .inl f_this_text))] H := hP
    have hD : va_D A [(q_this, .inr (4, [.ref q_this_draft, .int x_this_place, .ref q_this_text, .int x_this_length, .int r1, .int r10, .int r1, (va_re ad none), .int x_this_number, .ref q_this_rule, .int x_this_found])), (q_this_text, .inl (ct 1, 700, .inl f_this_text))] := hD
    refine lv_aload_n hx hb dX4_advance_59 rfl (lv_at hl 0 rfl) ?_
    refine lv_aload_n hx hb dX4_advance_60 rfl (lv_at hl 0 rfl) ?_
    refine va_get (D := D) (ci := 4) (v := .int r10) (C := RX4) (T := TX4) (N := 11) hx hb hts hin_Reader hown hK hP 0 rfl rfl 5 (by decide) (hts (.fieldLink RX4 37 "GutterSeats$Reader" "kind" "I") (List.mem_cons_of_mem _ (List.mem_append_left _ (List.mem_append_left _ (List.mem_of_getElem? (i := 4) (by first | rfl | decide +kernel)))))) (fun _ h9 => h9) rfl dX4_advance_61 ?_
    refine lv_iconst (v := 1) hx hb dX4_advance_64 (by decide) ?_
    refine lv_icmp_eq (tgt := 76) hx hb dX4_advance_65 (by decide) (fun c12 => ?_) (fun c12 => ?_)
    ·
      have j13 : iv r10 1 1 := by rw [c12]; exact (iv_lit (1 : Int32) (by decide) : iv (1 : Int32) 1 1)
      refine lv_aload_n hx hb dX4_advance_76 rfl (lv_at hl 0 rfl) ?_
      refine lv_aload_n hx hb dX4_advance_77 rfl (lv_at hl 0 rfl) ?_
      refine va_get (D := D) (ci := 4) (v := .int r1) (C := RX4) (T := TX4) (N := 11) hx hb hts hin_Reader hown hK hP 0 rfl rfl 4 (by decide) (hts (.fieldLink RX4 104 "GutterSeats$Reader" "at" "I") (List.mem_cons_of_mem _ (List.mem_append_left _ (List.mem_append_left _ (List.mem_of_getElem? (i := 0) (by first | rfl | decide +kernel)))))) (fun _ h9 => h9) rfl dX4_advance_78 ?_
      refine lv_aload_n hx hb dX4_advance_81 rfl (lv_at hl 0 rfl) ?_
      refine va_get (D := D) (ci := 4) (v := .int r10) (C := RX4) (T := TX4) (N := 11) hx hb hts hin_Reader hown hK hP 0 rfl rfl 5 (by decide) (hts (.fieldLink RX4 37 "GutterSeats$Reader" "kind" "I") (List.mem_cons_of_mem _ (List.mem_append_left _ (List.mem_append_left _ (List.mem_of_getElem? (i := 4) (by first | rfl | decide +kernel)))))) (fun _ h9 => h9) rfl dX4_advance_82 ?_
      refine kPV (rest := [.ref q_this]) (ci := 4) ⟨hx, hb, hml, hown, hts⟩ (c_Reader_endOfRow l D ct ad q_this q_this_text q_this_draft q_this_rule x_this_place x_this_length r1 r10 r1 x_this_number x_this_found f_this_text none r1 r10 (iv_w j7 (by decide) (by decide)) (iv_w j6 (by decide) (by decide)) (iv_w j6 (by decide) (by decide)) ew_none i_x_this_number i_x_this_found (iv_w j6 (by decide) (by decide)) g4) (cwV 2 hts gX4_advance_X4_endOfRow rfl rfl rfl (by first | exact hdX4_endOfRow_2 | decide +kernel) ⟨(Nat.le_of_ble_eq_true rfl), (Nat.le_of_ble_eq_true rfl)⟩) hK hP [0, 1] rfl rfl rfl rfl rfl hl.1 rfl (Nat.le_of_ble_eq_true rfl) dX4_advance_85 ⟨(Nat.le_of_ble_eq_true rfl), (Nat.le_of_ble_eq_true rfl)⟩ (fun r14 hr14 => ?_)
      have i_r14 : iv r14 0 700 := hr14.1
      have g15 : ux_er f_this_text x_this_length r1 r14 r10 := hr14.2.1
      have g16 : r1.toInt ≤ r14.toInt := hr14.2.2.1
      have g17 : r14.toInt ≤ x_this_length.toInt := hr14.2.2.2
      refine lv_goto (tgt := 97) hx hb dX4_advance_88 (by decide) ?_
      refine va_put (D := D) (ci := 4) (v := .int r14) (ty := .int) (C := RX4) (T := TX4) (N := 11) hx hb hts hin_Reader tyX4 tyX4_ok nmX4 hown hK hP hD hS 0 rfl rfl 4 (by decide) (hts (.fieldLink RX4 104 "GutterSeats$Reader" "at" "I") (List.mem_cons_of_mem _ (List.mem_append_left _ (List.mem_append_left _ (List.mem_of_getElem? (i := 0) (by first | rfl | decide +kernel)))))) (fun _ h9 => h9) rfl (by first | exact tyX4_ok 4 (by decide) | decide +kernel) rfl rfl (Nat.le_of_ble_eq_true rfl) dX4_advance_97 (fun H locs hP hD hS => ?_)
      have hP : va_P D vwCl [(q_this, .inr (4, [.ref q_this_draft, .int x_this_place, .ref q_this_text, .int x_this_length, .int r14, .int r10, .int r1, (va_re ad none), .int x_this_number, .ref q_this_rule, .int x_this_found])), (q_this_text, .inl (ct 1, 700, .inl f_this_text))] H := hP
      have hD : va_D A [(q_this, .inr (4, [.ref q_this_draft, .int x_this_place, .ref q_this_text, .int x_this_length, .int r14, .int r10, .int r1, (va_re ad none), .int x_this_number, .ref q_this_rule, .int x_this_found])), (q_this_text, .inl (ct 1, 700, .inl f_this_text))] := hD
      refine lv_aload_n hx hb dX4_advance_100 rfl (lv_at hl 0 rfl) ?_
      refine va_get (D := D) (ci := 4) (v := .int r10) (C := RX4) (T := TX4) (N := 11) hx hb hts hin_Reader hown hK hP 0 rfl rfl 5 (by decide) (hts (.fieldLink RX4 37 "GutterSeats$Reader" "kind" "I") (List.mem_cons_of_mem _ (List.mem_append_left _ (List.mem_append_left _ (List.mem_of_getElem? (i := 4) (by first | rfl | decide +kernel)))))) (fun _ h9 => h9) rfl dX4_advance_101 ?_
      refine lv_iconst (v := 1) hx hb dX4_advance_104 (by decide) ?_
      refine lv_icmp_ne (tgt := 119) hx hb dX4_advance_105 (by decide) (fun c18 => ?_) (fun c18 => ?_)
      ·
        exact absurd c12 c18
      ·
        have j19 : iv r10 1 1 := by rw [c18]; exact (iv_lit (1 : Int32) (by decide) : iv (1 : Int32) 1 1)
        refine lv_aload_n hx hb dX4_advance_108 rfl (lv_at hl 0 rfl) ?_
        refine lv_aload_n hx hb dX4_advance_109 rfl (lv_at hl 0 rfl) ?_
        refine keEV (rest := [.ref q_this]) (ci := 4) ⟨hx, hb, hml, hown, hts⟩ (c_Reader_findWord l D ct ad sw wa q_this q_this_text q_this_draft q_this_rule x_this_place x_this_length r14 r10 r1 x_this_number x_this_found f_this_text none (iv_w j7 (by decide) (by decide)) i_r14 (iv_w j6 (by decide) (by decide)) ew_none i_x_this_number i_x_this_found g17) (cwV 0 hts gX4_advance_X4_findWord rfl rfl rfl (by first | exact hdX4_findWord_0 | decide +kernel) ⟨(Nat.le_of_ble_eq_true rfl), (Nat.le_of_ble_eq_true rfl)⟩) (ER_ok ad sw wa) (ER_ok ad sw wa) id hX hS hK hP [0, 1] rfl rfl rfl rfl rfl hl.1 rfl (Nat.le_of_ble_eq_true rfl) dX4_advance_110 ⟨(Nat.le_of_ble_eq_true rfl), (Nat.le_of_ble_eq_true rfl)⟩ (fun r20 hr20 => ?_)
        have e_r20 := hr20.1
        have g_r20 : ux_fw f_this_text x_this_length r1 r14 r20 := hr20.2
        refine va_put (D := D) (ci := 4) (v := va_re ad r20) (ty := .object "GutterSeats$Word") (C := RX4) (T := TX4) (N := 11) hx hb hts hin_Reader tyX4 tyX4_ok nmX4 hown hK hP hD hS 0 rfl rfl 7 (by decide) (hts (.fieldLink RX4 43 "GutterSeats$Reader" "word" "LGutterSeats$Word;") (List.mem_cons_of_mem _ (List.mem_append_left _ (List.mem_append_left _ (List.mem_of_getElem? (i := 2) (by first | rfl | decide +kernel)))))) (fun _ h9 => h9) rfl (by first | exact tyX4_ok 7 (by decide) | decide +kernel) re_nar re_fit (Nat.le_of_ble_eq_true rfl) dX4_advance_113 (fun H locs hP hD hS => ?_)
        have hP : va_P D vwCl [(q_this, .inr (4, [.ref q_this_draft, .int x_this_place, .ref q_this_text, .int x_this_length, .int r14, .int r10, .int r1, (va_re ad r20), .int x_this_number, .ref q_this_rule, .int x_this_found])), (q_this_text, .inl (ct 1, 700, .inl f_this_text))] H := hP
        have hD : va_D A [(q_this, .inr (4, [.ref q_this_draft, .int x_this_place, .ref q_this_text, .int x_this_length, .int r14, .int r10, .int r1, (va_re ad r20), .int x_this_number, .ref q_this_rule, .int x_this_found])), (q_this_text, .inl (ct 1, 700, .inl f_this_text))] := hD
        refine lv_goto (tgt := 135) hx hb dX4_advance_116 (by decide) ?_
        exact hE (r14, r1, r10, x_this_number, r20) _ _ _ _ ⟨i_r14, (iv_w j6 (by decide) (by decide)), i_x_this_number, e_r20, (show ux_S f_this_text x_this_length r14 r1 r10 r20 x_this_number x_this_found x_this_place (0, gq) from (ux_S_eq (r' := (0, gq)) (r := (0, x_this_at.toInt.toNat)) (ux_ad_word (by clear hq hf0 hal g3 g4 g16 g17; have := (i_x_this_at).1; omega) g2 (by clear hq hf0 hal g3 g4 g16 g17; have := lt_i c5; omega) ex9 g11 (by clear hq hf0 hal g3 g4 g16 g17; have := (j19).1; have := (j19).2; omega) g15 g_r20 hf0) (by rw [hq]))), (show x_this_at.toInt ≤ r1.toInt from g3), (show r1.toInt ≤ r14.toInt from g16), (show r14.toInt ≤ x_this_length.toInt from g17)⟩ hP hD hS dX4_advance_135
    ·
      refine lv_aload_n hx hb dX4_advance_68 rfl (lv_at hl 0 rfl) ?_
      refine va_get (D := D) (ci := 4) (v := .int r10) (C := RX4) (T := TX4) (N := 11) hx hb hts hin_Reader hown hK hP 0 rfl rfl 5 (by decide) (hts (.fieldLink RX4 37 "GutterSeats$Reader" "kind" "I") (List.mem_cons_of_mem _ (List.mem_append_left _ (List.mem_append_left _ (List.mem_of_getElem? (i := 4) (by first | rfl | decide +kernel)))))) (fun _ h9 => h9) rfl dX4_advance_69 ?_
      refine lv_iconst (v := 2) hx hb dX4_advance_72 (by decide) ?_
      refine lv_icmp_ne (tgt := 91) hx hb dX4_advance_73 (by decide) (fun c21 => ?_) (fun c21 => ?_)
      ·
        refine lv_aload_n hx hb dX4_advance_91 rfl (lv_at hl 0 rfl) ?_
        refine va_get (D := D) (ci := 4) (v := .int r1) (C := RX4) (T := TX4) (N := 11) hx hb hts hin_Reader hown hK hP 0 rfl rfl 4 (by decide) (hts (.fieldLink RX4 104 "GutterSeats$Reader" "at" "I") (List.mem_cons_of_mem _ (List.mem_append_left _ (List.mem_append_left _ (List.mem_of_getElem? (i := 0) (by first | rfl | decide +kernel)))))) (fun _ h9 => h9) rfl dX4_advance_92 ?_
        refine lv_iconst (v := 1) hx hb dX4_advance_95 (by decide) ?_
        refine lv_iadd hx hb dX4_advance_96 ?_
        refine lv_topi (fun x22 ex22 => ?_)
        have i_x22 : iv x22 1 700 := iv_add ex22 j6 (iv_lit (1 : Int32) (by decide) : iv (1 : Int32) 1 1) (by decide) (by decide) (by decide) (by decide)
        refine va_put (D := D) (ci := 4) (v := .int x22) (ty := .int) (C := RX4) (T := TX4) (N := 11) hx hb hts hin_Reader tyX4 tyX4_ok nmX4 hown hK hP hD hS 0 rfl rfl 4 (by decide) (hts (.fieldLink RX4 104 "GutterSeats$Reader" "at" "I") (List.mem_cons_of_mem _ (List.mem_append_left _ (List.mem_append_left _ (List.mem_of_getElem? (i := 0) (by first | rfl | decide +kernel)))))) (fun _ h9 => h9) rfl (by first | exact tyX4_ok 4 (by decide) | decide +kernel) rfl rfl (Nat.le_of_ble_eq_true rfl) dX4_advance_97 (fun H locs hP hD hS => ?_)
        have hP : va_P D vwCl [(q_this, .inr (4, [.ref q_this_draft, .int x_this_place, .ref q_this_text, .int x_this_length, .int x22, .int r10, .int r1, (va_re ad none), .int x_this_number, .ref q_this_rule, .int x_this_found])), (q_this_text, .inl (ct 1, 700, .inl f_this_text))] H := hP
        have hD : va_D A [(q_this, .inr (4, [.ref q_this_draft, .int x_this_place, .ref q_this_text, .int x_this_length, .int x22, .int r10, .int r1, (va_re ad none), .int x_this_number, .ref q_this_rule, .int x_this_found])), (q_this_text, .inl (ct 1, 700, .inl f_this_text))] := hD
        refine lv_aload_n hx hb dX4_advance_100 rfl (lv_at hl 0 rfl) ?_
        refine va_get (D := D) (ci := 4) (v := .int r10) (C := RX4) (T := TX4) (N := 11) hx hb hts hin_Reader hown hK hP 0 rfl rfl 5 (by decide) (hts (.fieldLink RX4 37 "GutterSeats$Reader" "kind" "I") (List.mem_cons_of_mem _ (List.mem_append_left _ (List.mem_append_left _ (List.mem_of_getElem? (i := 4) (by first | rfl | decide +kernel)))))) (fun _ h9 => h9) rfl dX4_advance_101 ?_
        refine lv_iconst (v := 1) hx hb dX4_advance_104 (by decide) ?_
        refine lv_icmp_ne (tgt := 119) hx hb dX4_advance_105 (by decide) (fun c23 => ?_) (fun c23 => ?_)
        ·
          refine lv_aload_n hx hb dX4_advance_119 rfl (lv_at hl 0 rfl) ?_
          refine va_get (D := D) (ci := 4) (v := .int r10) (C := RX4) (T := TX4) (N := 11) hx hb hts hin_Reader hown hK hP 0 rfl rfl 5 (by decide) (hts (.fieldLink RX4 37 "GutterSeats$Reader" "kind" "I") (List.mem_cons_of_mem _ (List.mem_append_left _ (List.mem_append_left _ (List.mem_of_getElem? (i := 4) (by first | rfl | decide +kernel)))))) (fun _ h9 => h9) rfl dX4_advance_120 ?_
          refine lv_iconst (v := 2) hx hb dX4_advance_123 (by decide) ?_
          refine lv_icmp_ne (tgt := 135) hx hb dX4_advance_124 (by decide) (fun c24 => ?_) (fun c24 => ?_)
          ·
            exact hE (x22, r1, r10, x_this_number, none) _ _ _ _ ⟨(iv_w i_x22 (by decide) (by decide)), (iv_w j6 (by decide) (by decide)), i_x_this_number, ew_none, (show ux_S f_this_text x_this_length x22 r1 r10 none x_this_number x_this_found x_this_place (0, gq) from (ux_S_eq (r' := (0, gq)) (r := (0, x_this_at.toInt.toNat)) (ux_ad_sign (by clear hq hf0 hal g3 g4; have := (i_x_this_at).1; omega) g2 (by clear hq hf0 hal g3 g4; have := lt_i c5; omega) ex9 g11 (by clear hq hf0 hal g3 g4; have : (1 : Int32).toInt = 1 := rfl; have := ne_i c23; omega) (by clear hq hf0 hal g3 g4; have : (1 : Int32).toInt = 1 := rfl; have : (2 : Int32).toInt = 2 := rfl; have := ne_i c23; have := ne_i c24; omega) (by clear hq hf0 hal g3 g4; have := (j6).1; have := (j6).2; have : (1 : Int32).toInt = 1 := rfl; have : x22.toInt = r1.toInt + (1 : Int32).toInt := (by rw [ex22]; exact iv_tadd (by omega) (by omega)); omega) hf0) (by rw [hq]))), (show x_this_at.toInt ≤ r1.toInt from g3), (show r1.toInt ≤ x22.toInt from (by clear hq hf0 hal g3 g4; have := (j6).1; have := (j6).2; have : (1 : Int32).toInt = 1 := rfl; have : x22.toInt = r1.toInt + (1 : Int32).toInt := (by rw [ex22]; exact iv_tadd (by omega) (by omega)); omega)), (show x22.toInt ≤ x_this_length.toInt from (by clear hq hf0 hal g3 g4; have := (j6).1; have := (j6).2; have : (1 : Int32).toInt = 1 := rfl; have := lt_i c5; have : x22.toInt = r1.toInt + (1 : Int32).toInt := (by rw [ex22]; exact iv_tadd (by omega) (by omega)); omega))⟩ hP hD hS dX4_advance_135
          ·
            exact absurd c24 c21
        ·
          exact absurd c23 c12
      ·
        have j25 : iv r10 2 2 := by rw [c21]; exact (iv_lit (2 : Int32) (by decide) : iv (2 : Int32) 2 2)
        refine lv_aload_n hx hb dX4_advance_76 rfl (lv_at hl 0 rfl) ?_
        refine lv_aload_n hx hb dX4_advance_77 rfl (lv_at hl 0 rfl) ?_
        refine va_get (D := D) (ci := 4) (v := .int r1) (C := RX4) (T := TX4) (N := 11) hx hb hts hin_Reader hown hK hP 0 rfl rfl 4 (by decide) (hts (.fieldLink RX4 104 "GutterSeats$Reader" "at" "I") (List.mem_cons_of_mem _ (List.mem_append_left _ (List.mem_append_left _ (List.mem_of_getElem? (i := 0) (by first | rfl | decide +kernel)))))) (fun _ h9 => h9) rfl dX4_advance_78 ?_
        refine lv_aload_n hx hb dX4_advance_81 rfl (lv_at hl 0 rfl) ?_
        refine va_get (D := D) (ci := 4) (v := .int r10) (C := RX4) (T := TX4) (N := 11) hx hb hts hin_Reader hown hK hP 0 rfl rfl 5 (by decide) (hts (.fieldLink RX4 37 "GutterSeats$Reader" "kind" "I") (List.mem_cons_of_mem _ (List.mem_append_left _ (List.mem_append_left _ (List.mem_of_getElem? (i := 4) (by first | rfl | decide +kernel)))))) (fun _ h9 => h9) rfl dX4_advance_82 ?_
        refine kPV (rest := [.ref q_this]) (ci := 4) ⟨hx, hb, hml, hown, hts⟩ (c_Reader_endOfRow l D ct ad q_this q_this_text q_this_draft q_this_rule x_this_place x_this_length r1 r10 r1 x_this_number x_this_found f_this_text none r1 r10 (iv_w j7 (by decide) (by decide)) (iv_w j6 (by decide) (by decide)) (iv_w j6 (by decide) (by decide)) ew_none i_x_this_number i_x_this_found (iv_w j6 (by decide) (by decide)) g4) (cwV 2 hts gX4_advance_X4_endOfRow rfl rfl rfl (by first | exact hdX4_endOfRow_2 | decide +kernel) ⟨(Nat.le_of_ble_eq_true rfl), (Nat.le_of_ble_eq_true rfl)⟩) hK hP [0, 1] rfl rfl rfl rfl rfl hl.1 rfl (Nat.le_of_ble_eq_true rfl) dX4_advance_85 ⟨(Nat.le_of_ble_eq_true rfl), (Nat.le_of_ble_eq_true rfl)⟩ (fun r26 hr26 => ?_)
        have i_r26 : iv r26 0 700 := hr26.1
        have g27 : ux_er f_this_text x_this_length r1 r26 r10 := hr26.2.1
        have g28 : r1.toInt ≤ r26.toInt := hr26.2.2.1
        have g29 : r26.toInt ≤ x_this_length.toInt := hr26.2.2.2
        refine lv_goto (tgt := 97) hx hb dX4_advance_88 (by decide) ?_
        refine va_put (D := D) (ci := 4) (v := .int r26) (ty := .int) (C := RX4) (T := TX4) (N := 11) hx hb hts hin_Reader tyX4 tyX4_ok nmX4 hown hK hP hD hS 0 rfl rfl 4 (by decide) (hts (.fieldLink RX4 104 "GutterSeats$Reader" "at" "I") (List.mem_cons_of_mem _ (List.mem_append_left _ (List.mem_append_left _ (List.mem_of_getElem? (i := 0) (by first | rfl | decide +kernel)))))) (fun _ h9 => h9) rfl (by first | exact tyX4_ok 4 (by decide) | decide +kernel) rfl rfl (Nat.le_of_ble_eq_true rfl) dX4_advance_97 (fun H locs hP hD hS => ?_)
        have hP : va_P D vwCl [(q_this, .inr (4, [.ref q_this_draft, .int x_this_place, .ref q_this_text, .int x_this_length, .int r26, .int r10, .int r1, (va_re ad none), .int x_this_number, .ref q_this_rule, .int x_this_found])), (q_this_text, .inl (ct 1, 700, .inl f_this_text))] H := hP
        have hD : va_D A [(q_this, .inr (4, [.ref q_this_draft, .int x_this_place, .ref q_this_text, .int x_this_length, .int r26, .int r10, .int r1, (va_re ad none), .int x_this_number, .ref q_this_rule, .int x_this_found])), (q_this_text, .inl (ct 1, 700, .inl f_this_text))] := hD
        refine lv_aload_n hx hb dX4_advance_100 rfl (lv_at hl 0 rfl) ?_
        refine va_get (D := D) (ci := 4) (v := .int r10) (C := RX4) (T := TX4) (N := 11) hx hb hts hin_Reader hown hK hP 0 rfl rfl 5 (by decide) (hts (.fieldLink RX4 37 "GutterSeats$Reader" "kind" "I") (List.mem_cons_of_mem _ (List.mem_append_left _ (List.mem_append_left _ (List.mem_of_getElem? (i := 4) (by first | rfl | decide +kernel)))))) (fun _ h9 => h9) rfl dX4_advance_101 ?_
        refine lv_iconst (v := 1) hx hb dX4_advance_104 (by decide) ?_
        refine lv_icmp_ne (tgt := 119) hx hb dX4_advance_105 (by decide) (fun c30 => ?_) (fun c30 => ?_)
        ·
          refine lv_aload_n hx hb dX4_advance_119 rfl (lv_at hl 0 rfl) ?_
          refine va_get (D := D) (ci := 4) (v := .int r10) (C := RX4) (T := TX4) (N := 11) hx hb hts hin_Reader hown hK hP 0 rfl rfl 5 (by decide) (hts (.fieldLink RX4 37 "GutterSeats$Reader" "kind" "I") (List.mem_cons_of_mem _ (List.mem_append_left _ (List.mem_append_left _ (List.mem_of_getElem? (i := 4) (by first | rfl | decide +kernel)))))) (fun _ h9 => h9) rfl dX4_advance_120 ?_
          refine lv_iconst (v := 2) hx hb dX4_advance_123 (by decide) ?_
          refine lv_icmp_ne (tgt := 135) hx hb dX4_advance_124 (by decide) (fun c31 => ?_) (fun c31 => ?_)
          ·
            exact absurd c21 c31
          ·
            have j32 : iv r10 2 2 := by rw [c31]; exact (iv_lit (2 : Int32) (by decide) : iv (2 : Int32) 2 2)
            refine lv_aload_n hx hb dX4_advance_127 rfl (lv_at hl 0 rfl) ?_
            refine lv_aload_n hx hb dX4_advance_128 rfl (lv_at hl 0 rfl) ?_
            refine kPV (rest := [.ref q_this]) (ci := 4) ⟨hx, hb, hml, hown, hts⟩ (c_Reader_findNumber l D ct ad q_this q_this_text q_this_draft q_this_rule x_this_place x_this_length r26 r10 r1 x_this_number x_this_found f_this_text none (iv_w j7 (by decide) (by decide)) i_r26 (iv_w j6 (by decide) (by decide)) ew_none i_x_this_number i_x_this_found (ux_r0_dg (show ux_er f_this_text x_this_length r1 r26 (2 : Int32) from (Int32.toInt_inj.mp (show r10.toInt = (2 : Int32).toInt from (by clear hq hf0 hal g3 g4 g28 g29; have := congrArg Int32.toInt c31; omega))) ▸ g27)) g28 g29) (cwV 0 hts gX4_advance_X4_findNumber rfl rfl rfl (by first | exact hdX4_findNumber_0 | decide +kernel) ⟨(Nat.le_of_ble_eq_true rfl), (Nat.le_of_ble_eq_true rfl)⟩) hK hP [0, 1] rfl rfl rfl rfl rfl hl.1 rfl (Nat.le_of_ble_eq_true rfl) dX4_advance_129 ⟨(Nat.le_of_ble_eq_true rfl), (Nat.le_of_ble_eq_true rfl)⟩ (fun r33 hr33 => ?_)
            have i_r33 : iv r33 0 10000 := hr33.1
            have g34 : r33.toInt = (ux_tz f_this_text x_this_length r1 r26 : Int) := hr33.2
            refine va_put (D := D) (ci := 4) (v := .int r33) (ty := .int) (C := RX4) (T := TX4) (N := 11) hx hb hts hin_Reader tyX4 tyX4_ok nmX4 hown hK hP hD hS 0 rfl rfl 8 (by decide) (hts (.fieldLink RX4 116 "GutterSeats$Reader" "number" "I") (List.mem_cons_of_mem _ (List.mem_append_left _ (List.mem_append_left _ (List.mem_of_getElem? (i := 6) (by first | rfl | decide +kernel)))))) (fun _ h9 => h9) rfl (by first | exact tyX4_ok 8 (by decide) | decide +kernel) rfl rfl (Nat.le_of_ble_eq_true rfl) dX4_advance_132 (fun H locs hP hD hS => ?_)
            have hP : va_P D vwCl [(q_this, .inr (4, [.ref q_this_draft, .int x_this_place, .ref q_this_text, .int x_this_length, .int r26, .int r10, .int r1, (va_re ad none), .int r33, .ref q_this_rule, .int x_this_found])), (q_this_text, .inl (ct 1, 700, .inl f_this_text))] H := hP
            have hD : va_D A [(q_this, .inr (4, [.ref q_this_draft, .int x_this_place, .ref q_this_text, .int x_this_length, .int r26, .int r10, .int r1, (va_re ad none), .int r33, .ref q_this_rule, .int x_this_found])), (q_this_text, .inl (ct 1, 700, .inl f_this_text))] := hD
            exact hE (r26, r1, r10, r33, none) _ _ _ _ ⟨i_r26, (iv_w j6 (by decide) (by decide)), (iv_w i_r33 (by decide) (by decide)), ew_none, (show ux_S f_this_text x_this_length r26 r1 r10 none r33 x_this_found x_this_place (0, gq) from (ux_S_eq (r' := (0, gq)) (r := (0, x_this_at.toInt.toNat)) (ux_ad_num (by clear hq hf0 hal g3 g4 g28 g29; have := (i_x_this_at).1; omega) g2 (by clear hq hf0 hal g3 g4 g28 g29; have := lt_i c5; omega) ex9 g11 (by clear hq hf0 hal g3 g4 g28 g29; have := (j32).1; have := (j32).2; omega) g27 g34 hf0) (by rw [hq]))), (show x_this_at.toInt ≤ r1.toInt from g3), (show r1.toInt ≤ r26.toInt from g28), (show r26.toInt ≤ x_this_length.toInt from g29)⟩ hP hD hS dX4_advance_135
        ·
          exact absurd c30 c12
  ·
    refine lv_aload_n hx hb dX4_advance_37 rfl (lv_at hl 0 rfl) ?_
    refine lv_iconst (v := 0) hx hb dX4_advance_38 (by decide) ?_
    refine va_put (D := D) (ci := 4) (v := .int (0 : Int32)) (ty := .int) (C := RX4) (T := TX4) (N := 11) hx hb hts hin_Reader tyX4 tyX4_ok nmX4 hown hK hP hD hS 0 rfl rfl 5 (by decide) (hts (.fieldLink RX4 37 "GutterSeats$Reader" "kind" "I") (List.mem_cons_of_mem _ (List.mem_append_left _ (List.mem_append_left _ (List.mem_of_getElem? (i := 4) (by first | rfl | decide +kernel)))))) (fun _ h9 => h9) rfl (by first | exact tyX4_ok 5 (by decide) | decide +kernel) rfl rfl (Nat.le_of_ble_eq_true rfl) dX4_advance_39 (fun H locs hP hD hS => ?_)
    have hP : va_P D vwCl [(q_this, .inr (4, [.ref q_this_draft, .int x_this_place, .ref q_this_text, .int x_this_length, .int r1, .int (0 : Int32), .int r1, (va_re ad none), .int x_this_number, .ref q_this_rule, .int x_this_found])), (q_this_text, .inl (ct 1, 700, .inl f_this_text))] H := hP
    have hD : va_D A [(q_this, .inr (4, [.ref q_this_draft, .int x_this_place, .ref q_this_text, .int x_this_length, .int r1, .int (0 : Int32), .int r1, (va_re ad none), .int x_this_number, .ref q_this_rule, .int x_this_found])), (q_this_text, .inl (ct 1, 700, .inl f_this_text))] := hD
    exact hE (r1, r1, (0 : Int32), x_this_number, none) _ _ _ _ ⟨i_r1, i_r1, i_x_this_number, ew_none, (show ux_S f_this_text x_this_length r1 r1 (0 : Int32) none x_this_number x_this_found x_this_place (0, gq) from (ux_S_eq (r' := (0, gq)) (r := (0, x_this_at.toInt.toNat)) (ux_ad_end (by clear hq hf0 hal g3 g4; have := (i_x_this_at).1; omega) g2 (by clear hq hf0 hal g3 g4; have := le_i (iv_nlt c5); omega) hf0) (by rw [hq]))), (show x_this_at.toInt ≤ r1.toInt from g3), (show r1.toInt ≤ r1.toInt from (by clear hq hf0 hal g3 g4; omega)), (show r1.toInt ≤ x_this_length.toInt from g4)⟩ hP hD hS dX4_advance_42
