abbrev rm_Reader_kindOf : Room := { frames := 0, cells := 0, slots := 0, locals := 0 }
set_option maxHeartbeats 4000000 in
set_option maxRecDepth 100000 in
theorem c_Reader_kindOf (l : Launch) (D : va_G) (ct : Nat → ClassId) (p1 : Int32) : cP l yX4_kindOf wsX4_kindOf rm_Reader_kindOf D ct [] [.int p1] (fun r : Int32 => (r.toInt ≠ 2 ∨ (48 ≤ p1.toInt ∧ p1.toInt ≤ 57))) := by
  refine cP_of (cc := cX4_kindOf) (maxL := 1) (by decide) rfl (Nat.le_of_ble_eq_true rfl) ?_
  intro p e s m args below meth c Q hx hb hml hts hown hK hP hE ls hl
  have hl : lv_has ls 1 [(0, .int p1)] := hl
  have K118 : ∀  (ls : Array Slot), lv_has ls 1 [(0, .int p1)] → W p l e rm_Reader_kindOf s m args below meth c s.heap [] 0 0 Q (F0 m 118 ls []) := by
    intro ls hl
    refine lv_iload_n hx hb dX4_kindOf_118 rfl (lv_at hl 0 rfl) ?_
    refine lv_bipush (v := 48) hx hb dX4_kindOf_119 (by decide) ?_
    refine lv_icmp_lt (tgt := 134) hx hb dX4_kindOf_121 (by decide) (fun c1 => ?_) (fun c1 => ?_)
    ·
      have j2 : iv p1 (-2147483648) 47 := iv_ltL c1 (iv_any p1) (iv_lit (48 : Int32) (by decide) : iv (48 : Int32) 48 48) (by decide)
      refine lv_iconst (v := 4) hx hb dX4_kindOf_134 (by decide) ?_
      exact hE _ _ _ (show (4 : Int32).toInt ≠ 2 ∨ (48 ≤ p1.toInt ∧ p1.toInt ≤ 57) from (by have : (4 : Int32).toInt = 4 := rfl; have := (j2).1; have := (j2).2; have : (48 : Int32).toInt = 48 := rfl; have := lt_i c1; omega)) dX4_kindOf_135
    ·
      have j3 : iv p1 48 2147483647 := iv_leR (iv_nlt c1) (iv_lit (48 : Int32) (by decide) : iv (48 : Int32) 48 48) (iv_any p1) (by decide)
      refine lv_iload_n hx hb dX4_kindOf_124 rfl (lv_at hl 0 rfl) ?_
      refine lv_bipush (v := 57) hx hb dX4_kindOf_125 (by decide) ?_
      refine lv_icmp_gt (tgt := 134) hx hb dX4_kindOf_127 (by decide) (fun c4 => ?_) (fun c4 => ?_)
      ·
        have j5 : iv p1 58 2147483647 := iv_ltR c4 (iv_lit (57 : Int32) (by decide) : iv (57 : Int32) 57 57) j3 (by decide)
        refine lv_iconst (v := 4) hx hb dX4_kindOf_134 (by decide) ?_
        exact hE _ _ _ (show (4 : Int32).toInt ≠ 2 ∨ (48 ≤ p1.toInt ∧ p1.toInt ≤ 57) from (by have : (4 : Int32).toInt = 4 := rfl; have := (j5).1; have := (j5).2; have : (48 : Int32).toInt = 48 := rfl; have : (57 : Int32).toInt = 57 := rfl; have := le_i (iv_nlt c1); have := lt_i c4; omega)) dX4_kindOf_135
      ·
        have j6 : iv p1 48 57 := iv_leL (iv_nlt c4) j3 (iv_lit (57 : Int32) (by decide) : iv (57 : Int32) 57 57) (by decide)
        refine lv_iconst (v := 2) hx hb dX4_kindOf_130 (by decide) ?_
        refine lv_goto (tgt := 135) hx hb dX4_kindOf_131 (by decide) ?_
        exact hE _ _ _ (show (2 : Int32).toInt ≠ 2 ∨ (48 ≤ p1.toInt ∧ p1.toInt ≤ 57) from (by have : (2 : Int32).toInt = 2 := rfl; have := (j6).1; have := (j6).2; have : (48 : Int32).toInt = 48 := rfl; have : (57 : Int32).toInt = 57 := rfl; have := le_i (iv_nlt c1); have := le_i (iv_nlt c4); omega)) dX4_kindOf_135
  refine lv_iload_n hx hb dX4_kindOf_0 rfl (lv_at hl 0 rfl) ?_
  by_cases c7 : p1 = (10 : Int32)
  ·
    have t8 : p1.toInt = 10 := by rw [c7]; rfl
    refine lv_lookup (tgt := 100) (off := 99) hx hb dX4_kindOf_1 (by decide) (by rw [t8]; rfl) (by decide) ?_
    have j9 : iv p1 10 10 := by rw [c7]; exact (iv_lit (10 : Int32) (by decide))
    refine lv_iconst (v := 3) hx hb dX4_kindOf_100 (by decide) ?_
    exact hE _ _ _ (show (3 : Int32).toInt ≠ 2 ∨ (48 ≤ p1.toInt ∧ p1.toInt ≤ 57) from (by have : (3 : Int32).toInt = 3 := rfl; have := (j9).1; have := (j9).2; omega)) dX4_kindOf_101
  by_cases c10 : p1 = (32 : Int32)
  ·
    have t11 : p1.toInt = 32 := by rw [c10]; rfl
    refine lv_lookup (tgt := 100) (off := 99) hx hb dX4_kindOf_1 (by decide) (by rw [t11]; rfl) (by decide) ?_
    have j12 : iv p1 32 32 := by rw [c10]; exact (iv_lit (32 : Int32) (by decide))
    refine lv_iconst (v := 3) hx hb dX4_kindOf_100 (by decide) ?_
    exact hE _ _ _ (show (3 : Int32).toInt ≠ 2 ∨ (48 ≤ p1.toInt ∧ p1.toInt ≤ 57) from (by have : (3 : Int32).toInt = 3 := rfl; have := (j12).1; have := (j12).2; omega)) dX4_kindOf_101
  by_cases c13 : p1 = (40 : Int32)
  ·
    have t14 : p1.toInt = 40 := by rw [c13]; rfl
    refine lv_lookup (tgt := 102) (off := 101) hx hb dX4_kindOf_1 (by decide) (by rw [t14]; rfl) (by decide) ?_
    have j15 : iv p1 40 40 := by rw [c13]; exact (iv_lit (40 : Int32) (by decide))
    refine lv_iload_n hx hb dX4_kindOf_102 rfl (lv_at hl 0 rfl) ?_
    exact hE _ _ _ (show p1.toInt ≠ 2 ∨ (48 ≤ p1.toInt ∧ p1.toInt ≤ 57) from (by have := (j15).1; have := (j15).2; omega)) dX4_kindOf_103
  by_cases c16 : p1 = (41 : Int32)
  ·
    have t17 : p1.toInt = 41 := by rw [c16]; rfl
    refine lv_lookup (tgt := 102) (off := 101) hx hb dX4_kindOf_1 (by decide) (by rw [t17]; rfl) (by decide) ?_
    have j18 : iv p1 41 41 := by rw [c16]; exact (iv_lit (41 : Int32) (by decide))
    refine lv_iload_n hx hb dX4_kindOf_102 rfl (lv_at hl 0 rfl) ?_
    exact hE _ _ _ (show p1.toInt ≠ 2 ∨ (48 ≤ p1.toInt ∧ p1.toInt ≤ 57) from (by have := (j18).1; have := (j18).2; omega)) dX4_kindOf_103
  by_cases c19 : p1 = (42 : Int32)
  ·
    have t20 : p1.toInt = 42 := by rw [c19]; rfl
    refine lv_lookup (tgt := 102) (off := 101) hx hb dX4_kindOf_1 (by decide) (by rw [t20]; rfl) (by decide) ?_
    have j21 : iv p1 42 42 := by rw [c19]; exact (iv_lit (42 : Int32) (by decide))
    refine lv_iload_n hx hb dX4_kindOf_102 rfl (lv_at hl 0 rfl) ?_
    exact hE _ _ _ (show p1.toInt ≠ 2 ∨ (48 ≤ p1.toInt ∧ p1.toInt ≤ 57) from (by have := (j21).1; have := (j21).2; omega)) dX4_kindOf_103
  by_cases c22 : p1 = (43 : Int32)
  ·
    have t23 : p1.toInt = 43 := by rw [c22]; rfl
    refine lv_lookup (tgt := 102) (off := 101) hx hb dX4_kindOf_1 (by decide) (by rw [t23]; rfl) (by decide) ?_
    have j24 : iv p1 43 43 := by rw [c22]; exact (iv_lit (43 : Int32) (by decide))
    refine lv_iload_n hx hb dX4_kindOf_102 rfl (lv_at hl 0 rfl) ?_
    exact hE _ _ _ (show p1.toInt ≠ 2 ∨ (48 ≤ p1.toInt ∧ p1.toInt ≤ 57) from (by have := (j24).1; have := (j24).2; omega)) dX4_kindOf_103
  by_cases c25 : p1 = (45 : Int32)
  ·
    have t26 : p1.toInt = 45 := by rw [c25]; rfl
    refine lv_lookup (tgt := 102) (off := 101) hx hb dX4_kindOf_1 (by decide) (by rw [t26]; rfl) (by decide) ?_
    have j27 : iv p1 45 45 := by rw [c25]; exact (iv_lit (45 : Int32) (by decide))
    refine lv_iload_n hx hb dX4_kindOf_102 rfl (lv_at hl 0 rfl) ?_
    exact hE _ _ _ (show p1.toInt ≠ 2 ∨ (48 ≤ p1.toInt ∧ p1.toInt ≤ 57) from (by have := (j27).1; have := (j27).2; omega)) dX4_kindOf_103
  by_cases c28 : p1 = (47 : Int32)
  ·
    have t29 : p1.toInt = 47 := by rw [c28]; rfl
    refine lv_lookup (tgt := 102) (off := 101) hx hb dX4_kindOf_1 (by decide) (by rw [t29]; rfl) (by decide) ?_
    have j30 : iv p1 47 47 := by rw [c28]; exact (iv_lit (47 : Int32) (by decide))
    refine lv_iload_n hx hb dX4_kindOf_102 rfl (lv_at hl 0 rfl) ?_
    exact hE _ _ _ (show p1.toInt ≠ 2 ∨ (48 ≤ p1.toInt ∧ p1.toInt ≤ 57) from (by have := (j30).1; have := (j30).2; omega)) dX4_kindOf_103
  by_cases c31 : p1 = (59 : Int32)
  ·
    have t32 : p1.toInt = 59 := by rw [c31]; rfl
    refine lv_lookup (tgt := 102) (off := 101) hx hb dX4_kindOf_1 (by decide) (by rw [t32]; rfl) (by decide) ?_
    have j33 : iv p1 59 59 := by rw [c31]; exact (iv_lit (59 : Int32) (by decide))
    refine lv_iload_n hx hb dX4_kindOf_102 rfl (lv_at hl 0 rfl) ?_
    exact hE _ _ _ (show p1.toInt ≠ 2 ∨ (48 ≤ p1.toInt ∧ p1.toInt ≤ 57) from (by have := (j33).1; have := (j33).2; omega)) dX4_kindOf_103
  by_cases c34 : p1 = (60 : Int32)
  ·
    have t35 : p1.toInt = 60 := by rw [c34]; rfl
    refine lv_lookup (tgt := 102) (off := 101) hx hb dX4_kindOf_1 (by decide) (by rw [t35]; rfl) (by decide) ?_
    have j36 : iv p1 60 60 := by rw [c34]; exact (iv_lit (60 : Int32) (by decide))
    refine lv_iload_n hx hb dX4_kindOf_102 rfl (lv_at hl 0 rfl) ?_
    exact hE _ _ _ (show p1.toInt ≠ 2 ∨ (48 ≤ p1.toInt ∧ p1.toInt ≤ 57) from (by have := (j36).1; have := (j36).2; omega)) dX4_kindOf_103
  by_cases c37 : p1 = (61 : Int32)
  ·
    have t38 : p1.toInt = 61 := by rw [c37]; rfl
    refine lv_lookup (tgt := 102) (off := 101) hx hb dX4_kindOf_1 (by decide) (by rw [t38]; rfl) (by decide) ?_
    have j39 : iv p1 61 61 := by rw [c37]; exact (iv_lit (61 : Int32) (by decide))
    refine lv_iload_n hx hb dX4_kindOf_102 rfl (lv_at hl 0 rfl) ?_
    exact hE _ _ _ (show p1.toInt ≠ 2 ∨ (48 ≤ p1.toInt ∧ p1.toInt ≤ 57) from (by have := (j39).1; have := (j39).2; omega)) dX4_kindOf_103
  refine lv_lookup (tgt := 104) (off := 103) hx hb dX4_kindOf_1 (by decide) (by show Op.lookupswitch.offset [(10, 99), (32, 99), (40, 101), (41, 101), (42, 101), (43, 101), (45, 101), (47, 101), (59, 101), (60, 101), (61, 101)] 103 p1.toInt = 103; rw [lv_osw (a := 10) c7 rfl]; rw [lv_osw (a := 32) c10 rfl]; rw [lv_osw (a := 40) c13 rfl]; rw [lv_osw (a := 41) c16 rfl]; rw [lv_osw (a := 42) c19 rfl]; rw [lv_osw (a := 43) c22 rfl]; rw [lv_osw (a := 45) c25 rfl]; rw [lv_osw (a := 47) c28 rfl]; rw [lv_osw (a := 59) c31 rfl]; rw [lv_osw (a := 60) c34 rfl]; rw [lv_osw (a := 61) c37 rfl]; rfl) (by decide) ?_
  refine lv_iload_n hx hb dX4_kindOf_104 rfl (lv_at hl 0 rfl) ?_
  refine lv_bipush (v := 97) hx hb dX4_kindOf_105 (by decide) ?_
  refine lv_icmp_lt (tgt := 118) hx hb dX4_kindOf_107 (by decide) (fun c40 => ?_) (fun c40 => ?_)
  ·
    have j41 : iv p1 (-2147483648) 96 := iv_ltL c40 (iv_any p1) (iv_lit (97 : Int32) (by decide) : iv (97 : Int32) 97 97) (by decide)
    exact K118 ls (lv_sub hl [0] rfl)
  ·
    have j42 : iv p1 97 2147483647 := iv_leR (iv_nlt c40) (iv_lit (97 : Int32) (by decide) : iv (97 : Int32) 97 97) (iv_any p1) (by decide)
    refine lv_iload_n hx hb dX4_kindOf_110 rfl (lv_at hl 0 rfl) ?_
    refine lv_bipush (v := 122) hx hb dX4_kindOf_111 (by decide) ?_
    refine lv_icmp_gt (tgt := 118) hx hb dX4_kindOf_113 (by decide) (fun c43 => ?_) (fun c43 => ?_)
    ·
      have j44 : iv p1 123 2147483647 := iv_ltR c43 (iv_lit (122 : Int32) (by decide) : iv (122 : Int32) 122 122) j42 (by decide)
      exact K118 ls (lv_sub hl [0] rfl)
    ·
      have j45 : iv p1 97 122 := iv_leL (iv_nlt c43) j42 (iv_lit (122 : Int32) (by decide) : iv (122 : Int32) 122 122) (by decide)
      refine lv_iconst (v := 1) hx hb dX4_kindOf_116 (by decide) ?_
      exact hE _ _ _ (show (1 : Int32).toInt ≠ 2 ∨ (48 ≤ p1.toInt ∧ p1.toInt ≤ 57) from (by have : (1 : Int32).toInt = 1 := rfl; have := (j45).1; have := (j45).2; have : (97 : Int32).toInt = 97 := rfl; have : (122 : Int32).toInt = 122 := rfl; have := le_i (iv_nlt c40); have := le_i (iv_nlt c43); omega)) dX4_kindOf_117
abbrev rm_Reader_endOfRow : Room := { frames := 1, cells := 0, slots := 0, locals := 20 }
set_option maxHeartbeats 4000000 in
set_option maxRecDepth 100000 in
theorem c_Reader_endOfRow (l : Launch) (D : va_G) (ct : Nat → ClassId) (ad : Nat → Nat) (q_this q_this_text q_this_draft q_this_rule : Nat) (x_this_place x_this_length x_this_at x_this_kind x_this_start x_this_number x_this_found : Int32) (f_this_text : Nat → Int32) (w_this_word : Option Nat) (p1 p2 : Int32) (i_x_this_length : iv x_this_length 0 700) (i_x_this_at : iv x_this_at 0 700) (i_x_this_start : iv x_this_start 0 700) (e_w_this_word : ew w_this_word) (i_x_this_number : iv x_this_number 0 10006) (i_x_this_found : iv x_this_found 0 5) (i_p1 : iv p1 0 700) : cP l yX4_endOfRow wsX4_endOfRow rm_Reader_endOfRow D ct [(q_this, .inr (4, [.ref q_this_draft, .int x_this_place, .ref q_this_text, .int x_this_length, .int x_this_at, .int x_this_kind, .int x_this_start, (va_re ad w_this_word), .int x_this_number, .ref q_this_rule, .int x_this_found])), (q_this_text, .inl (ct 1, 700, .inl f_this_text))] [.ref q_this, .int p1, .int p2] (fun r : Int32 => iv r 0 700 ∧ (p1.toInt ≤ r.toInt ∨ r.toInt = x_this_length.toInt)) := by
  refine cP_of (cc := cX4_endOfRow) (maxL := 4) (by decide) rfl (Nat.le_of_ble_eq_true rfl) ?_
  intro p e s m args below meth c Q hx hb hml hts hown hK hP hE ls hl
  have hl : lv_has ls 4 [(0, .ref q_this), (1, .int p1), (2, .int p2)] := hl
  have hin_Reader : ∀ w ∈ u_ws RX4 TX4 11, w ∈ wsX4_endOfRow := by decide +kernel
  have K2 : ∀ (n2 : Nat) (v3c2 : Int32) (ls : Array Slot), iv v3c2 0 700 → (700 - v3c2.toInt).toNat < n2 → p1.toInt ≤ v3c2.toInt → lv_has ls 4 [(0, .ref q_this), (2, .int p2), (3, .int v3c2)] → W p l e rm_Reader_endOfRow s m args below meth c s.heap [] 0 0 Q (F0 m 2 ls []) := by
    intro n2
    induction n2 with
    | zero => intro v3c2 ls i_v3c2 hm2 rl2_0 hl; exact absurd hm2 (Nat.not_lt_zero _)
    | succ n2 ih2 =>
      intro v3c2 ls i_v3c2 hm2 rl2_0 hl
      refine lv_iload_n hx hb dX4_endOfRow_2 rfl (lv_at hl 2 rfl) ?_
      refine lv_aload_n hx hb dX4_endOfRow_3 rfl (lv_at hl 0 rfl) ?_
      refine va_get (D := D) (ci := 4) (v := .int x_this_length) (C := RX4) (T := TX4) (N := 11) hx hb hts hin_Reader hown hK hP 0 rfl rfl 3 (by decide) (hts (.fieldLink RX4 101 "GutterSeats$Reader" "length" "I") (by decide +kernel)) (fun _ h9 => h9) rfl dX4_endOfRow_4 ?_
      refine lv_icmp_ge (tgt := 31) hx hb dX4_endOfRow_7 (by decide) (fun c1 => ?_) (fun c1 => ?_)
      ·
        refine lv_aload_n hx hb dX4_endOfRow_31 rfl (lv_at hl 0 rfl) ?_
        refine va_get (D := D) (ci := 4) (v := .int x_this_length) (C := RX4) (T := TX4) (N := 11) hx hb hts hin_Reader hown hK hP 0 rfl rfl 3 (by decide) (hts (.fieldLink RX4 101 "GutterSeats$Reader" "length" "I") (by decide +kernel)) (fun _ h9 => h9) rfl dX4_endOfRow_32 ?_
        exact hE _ _ _ ⟨i_x_this_length, (show p1.toInt ≤ x_this_length.toInt ∨ x_this_length.toInt = x_this_length.toInt from (by have := rl2_0; have := (i_p1).1; have := (i_p1).2; have := (i_x_this_length).1; have := (i_x_this_length).2; have := (i_v3c2).1; have := (i_v3c2).2; have := le_i c1; omega))⟩ dX4_endOfRow_35
      ·
        have j2 : iv v3c2 0 699 := iv_ltL (iv_nle c1) i_v3c2 i_x_this_length (by decide)
        have j3 : iv x_this_length 1 700 := iv_ltR (iv_nle c1) i_v3c2 i_x_this_length (by decide)
        refine lv_aload_n hx hb dX4_endOfRow_10 rfl (lv_at hl 0 rfl) ?_
        refine va_get (D := D) (ci := 4) (v := .ref q_this_text) (C := RX4) (T := TX4) (N := 11) hx hb hts hin_Reader hown hK hP 0 rfl rfl 2 (by decide) (hts (.fieldLink RX4 22 "GutterSeats$Reader" "text" "[B") (by decide +kernel)) (fun _ h9 => h9) rfl dX4_endOfRow_11 ?_
        refine lv_iload_n hx hb dX4_endOfRow_14 rfl (lv_at hl 2 rfl) ?_
        have n4 : vp_in v3c2 700 := iv_in j2 (by decide) (by decide)
        refine va_bald hx hb hK hP 1 1 rfl rfl n4 dX4_endOfRow_15 ?_
        refine lv_topi (fun x5 ex5 => ?_)
        refine kPS (rest := []) ⟨hx, hb, hml, hown, hts⟩ (c_Reader_kindOf l D ct x5) (va_cwS 1 hts gX4_endOfRow_X4_kindOf rfl rfl rfl (by decide +kernel) ⟨(Nat.le_of_ble_eq_true rfl), (Nat.le_of_ble_eq_true rfl)⟩) hK hP [] rfl rfl hl.1 rfl (Nat.le_of_ble_eq_true rfl) dX4_endOfRow_16 ⟨(Nat.le_of_ble_eq_true rfl), (Nat.le_of_ble_eq_true rfl)⟩ (fun r6 hr6 => ?_)
        have g7 : r6.toInt ≠ 2 ∨ (48 ≤ x5.toInt ∧ x5.toInt ≤ 57) := hr6
        refine lv_iload_n hx hb dX4_endOfRow_19 rfl (lv_at hl 1 rfl) ?_
        refine lv_icmp_eq (tgt := 25) hx hb dX4_endOfRow_20 (by decide) (fun c8 => ?_) (fun c8 => ?_)
        ·
          obtain ⟨x9, ex9⟩ : ∃ z : Int32, z = v3c2 + (1 : Int32) := ⟨_, rfl⟩
          refine lv_iinc (v := x9) (lv' := [(3, .int x9), (0, .ref q_this), (2, .int p2)]) hx hb dX4_endOfRow_25 hl (k := 2) rfl (by rw [ex9]; rfl) (by decide) rfl (fun ls hl => ?_)
          have i_x9 : iv x9 1 700 := iv_add ex9 j2 (iv_lit (1 : Int32) (by decide) : iv (1 : Int32) 1 1) (by decide) (by decide) (by decide) (by decide)
          refine lv_goto (tgt := 2) hx hb dX4_endOfRow_28 (by decide) ?_
          exact ih2 x9 ls (iv_w i_x9 (by decide) (by decide)) (ms_up ex9 j2 (by decide) (by decide) hm2) (by have := rl2_0; have := g7; have := (i_p1).1; have := (i_p1).2; have := (i_x9).1; have := (i_x9).2; have := (j2).1; have := (j2).2; have := iv_rng r6; have := iv_rng x5; have : (1 : Int32).toInt = 1 := rfl; have := (j3).1; have := (j3).2; have := iv_rng p2; have := lt_i (iv_nle c1); have := congrArg Int32.toInt c8; have : x9.toInt = v3c2.toInt + (1 : Int32).toInt := (by rw [ex9]; exact iv_tadd (by omega) (by omega)); omega) (lv_sub hl [1, 2, 0] rfl)
        ·
          refine lv_iload_n hx hb dX4_endOfRow_23 rfl (lv_at hl 2 rfl) ?_
          exact hE _ _ _ ⟨(iv_w j2 (by decide) (by decide)), (show p1.toInt ≤ v3c2.toInt ∨ v3c2.toInt = x_this_length.toInt from (by have := rl2_0; have := g7; have := (i_p1).1; have := (i_p1).2; have := (j2).1; have := (j2).2; have := (j3).1; have := (j3).2; have := iv_rng r6; have := iv_rng x5; have := iv_rng p2; have := lt_i (iv_nle c1); have := ne_i c8; omega))⟩ dX4_endOfRow_24
  refine lv_iload_n hx hb dX4_endOfRow_0 rfl (lv_at hl 1 rfl) ?_
  refine lv_istore_n (lv' := [(3, .int p1), (0, .ref q_this), (1, .int p1), (2, .int p2)]) hx hb dX4_endOfRow_1 rfl hl (by decide) rfl (fun ls hl => ?_)
  exact K2 _ p1 ls i_p1 (Nat.lt_succ_self _) (by have := (i_p1).1; have := (i_p1).2; omega) (lv_sub hl [1, 3, 0] rfl)
abbrev rm_Reader_endOfRow2 : Room := { frames := 1, cells := 0, slots := 0, locals := 20 }
set_option maxHeartbeats 4000000 in
set_option maxRecDepth 100000 in
theorem c_Reader_endOfRow2 (l : Launch) (D : va_G) (ct : Nat → ClassId) (ad : Nat → Nat) (q_this q_this_text q_this_draft q_this_rule : Nat) (x_this_place x_this_length x_this_at x_this_kind x_this_start x_this_number x_this_found : Int32) (f_this_text : Nat → Int32) (w_this_word : Option Nat) (p1 p2 : Int32) (i_x_this_length : iv x_this_length 0 700) (i_x_this_at : iv x_this_at 0 700) (i_x_this_start : iv x_this_start 0 700) (e_w_this_word : ew w_this_word) (i_x_this_number : iv x_this_number 0 10006) (i_x_this_found : iv x_this_found 0 5) (i_p1 : iv p1 0 700) (i_p2 : iv p2 2 2) : cP l yX4_endOfRow wsX4_endOfRow rm_Reader_endOfRow2 D ct [(q_this, .inr (4, [.ref q_this_draft, .int x_this_place, .ref q_this_text, .int x_this_length, .int x_this_at, .int x_this_kind, .int x_this_start, (va_re ad w_this_word), .int x_this_number, .ref q_this_rule, .int x_this_found])), (q_this_text, .inl (ct 1, 700, .inl f_this_text))] [.ref q_this, .int p1, .int p2] (fun r : Int32 => iv r 0 700 ∧ dg f_this_text p1.toNatClampNeg r.toNatClampNeg) := by
  refine cP_of (cc := cX4_endOfRow) (maxL := 4) (by decide) rfl (Nat.le_of_ble_eq_true rfl) ?_
  intro p e s m args below meth c Q hx hb hml hts hown hK hP hE ls hl
  have hl : lv_has ls 4 [(0, .ref q_this), (1, .int p1), (2, .int p2)] := hl
  have hin_Reader : ∀ w ∈ u_ws RX4 TX4 11, w ∈ wsX4_endOfRow := by decide +kernel
  have K2 : ∀ (n2 : Nat) (v3c2 : Int32) (ls : Array Slot), iv v3c2 0 700 → (700 - v3c2.toInt).toNat < n2 → dg f_this_text p1.toNatClampNeg v3c2.toNatClampNeg → p1.toInt ≤ v3c2.toInt → lv_has ls 4 [(0, .ref q_this), (2, .int p2), (3, .int v3c2)] → W p l e rm_Reader_endOfRow2 s m args below meth c s.heap [] 0 0 Q (F0 m 2 ls []) := by
    intro n2
    induction n2 with
    | zero => intro v3c2 ls i_v3c2 hm2 rl2_0 rl2_1 hl; exact absurd hm2 (Nat.not_lt_zero _)
    | succ n2 ih2 =>
      intro v3c2 ls i_v3c2 hm2 rl2_0 rl2_1 hl
      refine lv_iload_n hx hb dX4_endOfRow_2 rfl (lv_at hl 2 rfl) ?_
      refine lv_aload_n hx hb dX4_endOfRow_3 rfl (lv_at hl 0 rfl) ?_
      refine va_get (D := D) (ci := 4) (v := .int x_this_length) (C := RX4) (T := TX4) (N := 11) hx hb hts hin_Reader hown hK hP 0 rfl rfl 3 (by decide) (hts (.fieldLink RX4 101 "GutterSeats$Reader" "length" "I") (by decide +kernel)) (fun _ h9 => h9) rfl dX4_endOfRow_4 ?_
      refine lv_icmp_ge (tgt := 31) hx hb dX4_endOfRow_7 (by decide) (fun c1 => ?_) (fun c1 => ?_)
      ·
        refine lv_aload_n hx hb dX4_endOfRow_31 rfl (lv_at hl 0 rfl) ?_
        refine va_get (D := D) (ci := 4) (v := .int x_this_length) (C := RX4) (T := TX4) (N := 11) hx hb hts hin_Reader hown hK hP 0 rfl rfl 3 (by decide) (hts (.fieldLink RX4 101 "GutterSeats$Reader" "length" "I") (by decide +kernel)) (fun _ h9 => h9) rfl dX4_endOfRow_32 ?_
        exact hE _ _ _ ⟨i_x_this_length, (show dg f_this_text p1.toNatClampNeg x_this_length.toNatClampNeg from (dg_less rl2_0 (by have := rl2_1; have := (i_x_this_length).1; have := (i_x_this_length).2; have := (i_v3c2).1; have := (i_v3c2).2; have := (i_p1).1; have := (i_p1).2; have := le_i c1; omega)))⟩ dX4_endOfRow_35
      ·
        have j2 : iv v3c2 0 699 := iv_ltL (iv_nle c1) i_v3c2 i_x_this_length (by decide)
        have j3 : iv x_this_length 1 700 := iv_ltR (iv_nle c1) i_v3c2 i_x_this_length (by decide)
        refine lv_aload_n hx hb dX4_endOfRow_10 rfl (lv_at hl 0 rfl) ?_
        refine va_get (D := D) (ci := 4) (v := .ref q_this_text) (C := RX4) (T := TX4) (N := 11) hx hb hts hin_Reader hown hK hP 0 rfl rfl 2 (by decide) (hts (.fieldLink RX4 22 "GutterSeats$Reader" "text" "[B") (by decide +kernel)) (fun _ h9 => h9) rfl dX4_endOfRow_11 ?_
        refine lv_iload_n hx hb dX4_endOfRow_14 rfl (lv_at hl 2 rfl) ?_
        have n4 : vp_in v3c2 700 := iv_in j2 (by decide) (by decide)
        refine va_bald hx hb hK hP 1 1 rfl rfl n4 dX4_endOfRow_15 ?_
        refine lv_topi (fun x5 ex5 => ?_)
        refine kPS (rest := []) ⟨hx, hb, hml, hown, hts⟩ (c_Reader_kindOf l D ct x5) (va_cwS 1 hts gX4_endOfRow_X4_kindOf rfl rfl rfl (by decide +kernel) ⟨(Nat.le_of_ble_eq_true rfl), (Nat.le_of_ble_eq_true rfl)⟩) hK hP [] rfl rfl hl.1 rfl (Nat.le_of_ble_eq_true rfl) dX4_endOfRow_16 ⟨(Nat.le_of_ble_eq_true rfl), (Nat.le_of_ble_eq_true rfl)⟩ (fun r6 hr6 => ?_)
        have g7 : r6.toInt ≠ 2 ∨ (48 ≤ x5.toInt ∧ x5.toInt ≤ 57) := hr6
        refine lv_iload_n hx hb dX4_endOfRow_19 rfl (lv_at hl 1 rfl) ?_
        refine lv_icmp_eq (tgt := 25) hx hb dX4_endOfRow_20 (by decide) (fun c8 => ?_) (fun c8 => ?_)
        ·
          have j9 : iv r6 2 2 := by rw [c8]; exact i_p2
          obtain ⟨x10, ex10⟩ : ∃ z : Int32, z = v3c2 + (1 : Int32) := ⟨_, rfl⟩
          refine lv_iinc (v := x10) (lv' := [(3, .int x10), (0, .ref q_this), (2, .int p2)]) hx hb dX4_endOfRow_25 hl (k := 2) rfl (by rw [ex10]; rfl) (by decide) rfl (fun ls hl => ?_)
          have i_x10 : iv x10 1 700 := iv_add ex10 j2 (iv_lit (1 : Int32) (by decide) : iv (1 : Int32) 1 1) (by decide) (by decide) (by decide) (by decide)
          refine lv_goto (tgt := 2) hx hb dX4_endOfRow_28 (by decide) ?_
          exact ih2 x10 ls (iv_w i_x10 (by decide) (by decide)) (ms_up ex10 j2 (by decide) (by decide) hm2) (dg_add rl2_0 ex5 (show iv x5 48 57 from by unfold iv; have := rl2_1; have := g7; have := iv_rng x5; have := (i_p1).1; have := (i_p1).2; have := (j2).1; have := (j2).2; have := (j9).1; have := (j9).2; have := (j3).1; have := (j3).2; have := (i_p2).1; have := (i_p2).2; have := lt_i (iv_nle c1); have := congrArg Int32.toInt c8; omega) (by have := rl2_1; have := g7; have := (i_x10).1; have := (i_x10).2; have := (j2).1; have := (j2).2; have := (i_p1).1; have := (i_p1).2; have := (j9).1; have := (j9).2; have := iv_rng x5; have : (1 : Int32).toInt = 1 := rfl; have := (j3).1; have := (j3).2; have := (i_p2).1; have := (i_p2).2; have := lt_i (iv_nle c1); have := congrArg Int32.toInt c8; have : x10.toInt = v3c2.toInt + (1 : Int32).toInt := (by rw [ex10]; exact iv_tadd (by omega) (by omega)); omega) (by have := rl2_1; have := g7; have := (j2).1; have := (j2).2; have := (i_p1).1; have := (i_p1).2; have := (j9).1; have := (j9).2; have := iv_rng x5; have := (j3).1; have := (j3).2; have := (i_p2).1; have := (i_p2).2; have := lt_i (iv_nle c1); have := congrArg Int32.toInt c8; omega)) (by have := rl2_1; have := g7; have := (i_p1).1; have := (i_p1).2; have := (i_x10).1; have := (i_x10).2; have := (j2).1; have := (j2).2; have := (j9).1; have := (j9).2; have := iv_rng x5; have : (1 : Int32).toInt = 1 := rfl; have := (j3).1; have := (j3).2; have := (i_p2).1; have := (i_p2).2; have := lt_i (iv_nle c1); have := congrArg Int32.toInt c8; have : x10.toInt = v3c2.toInt + (1 : Int32).toInt := (by rw [ex10]; exact iv_tadd (by omega) (by omega)); omega) (lv_sub hl [1, 2, 0] rfl)
        ·
          refine lv_iload_n hx hb dX4_endOfRow_23 rfl (lv_at hl 2 rfl) ?_
          exact hE _ _ _ ⟨(iv_w j2 (by decide) (by decide)), (show dg f_this_text p1.toNatClampNeg v3c2.toNatClampNeg from rl2_0)⟩ dX4_endOfRow_24
  refine lv_iload_n hx hb dX4_endOfRow_0 rfl (lv_at hl 1 rfl) ?_
  refine lv_istore_n (lv' := [(3, .int p1), (0, .ref q_this), (1, .int p1), (2, .int p2)]) hx hb dX4_endOfRow_1 rfl hl (by decide) rfl (fun ls hl => ?_)
  exact K2 _ p1 ls i_p1 (Nat.lt_succ_self _) (dg_nil (Nat.le_refl _)) (by have := (i_p1).1; have := (i_p1).2; omega) (lv_sub hl [1, 3, 0] rfl)
abbrev rm_Reader_findWord : Room := { frames := 4, cells := 0, slots := 0, locals := 141 }
set_option maxHeartbeats 4000000 in
set_option maxRecDepth 100000 in
theorem c_Reader_findWord (l : Launch) (D : va_G) (ct : Nat → ClassId) (ad sw : Nat → Nat) (wa : Nat) (q_this q_this_text q_this_draft q_this_rule : Nat) (x_this_place x_this_length x_this_at x_this_kind x_this_start x_this_number x_this_found : Int32) (f_this_text : Nat → Int32) (w_this_word : Option Nat) (i_x_this_length : iv x_this_length 0 700) (i_x_this_at : iv x_this_at 0 700) (i_x_this_start : iv x_this_start 0 700) (e_w_this_word : ew w_this_word) (i_x_this_number : iv x_this_number 0 10006) (i_x_this_found : iv x_this_found 0 5) : eE (ER ad sw wa) l yX4_findWord wsX4_findWord rm_Reader_findWord D ct ad [(q_this, .inr (4, [.ref q_this_draft, .int x_this_place, .ref q_this_text, .int x_this_length, .int x_this_at, .int x_this_kind, .int x_this_start, (va_re ad w_this_word), .int x_this_number, .ref q_this_rule, .int x_this_found])), (q_this_text, .inl (ct 1, 700, .inl f_this_text))] [.ref q_this] (fun r : Option Nat => ew r) := by
  refine eE_of (cc := cX4_findWord) (maxL := 4) (by decide) rfl (Nat.le_of_ble_eq_true rfl) ?_
  intro p e s m args below meth c Q hx hb hml hts hown hK hP hX hE ls hl
  have hl : lv_has ls 4 [(0, .ref q_this)] := hl
  have hin_Reader : ∀ w ∈ u_ws RX4 TX4 11, w ∈ wsX4_findWord := by decide +kernel
  have K2 : ∀ (n2 : Nat) (v1c2 : Int32) (ls : Array Slot), iv v1c2 0 20 → (20 - v1c2.toInt).toNat < n2 → lv_has ls 4 [(0, .ref q_this), (1, .int v1c2)] → W p l e rm_Reader_findWord s m args below meth c s.heap [] 0 0 Q (F0 m 2 ls []) := by
    intro n2
    induction n2 with
    | zero => intro v1c2 ls i_v1c2 hm2 hl; exact absurd hm2 (Nat.not_lt_zero _)
    | succ n2 ih2 =>
      intro v1c2 ls i_v1c2 hm2 hl
      have K94 : ∀ (v1c94 : Int32) (ls : Array Slot), iv v1c94 0 16 → (20 - v1c94.toInt).toNat < n2 + 1 → lv_has ls 4 [(0, .ref q_this), (1, .int v1c94)] → W p l e rm_Reader_findWord s m args below meth c s.heap [] 0 0 Q (F0 m 94 ls []) := by
        intro v1c94 ls i_v1c94 hm2 hl
        obtain ⟨x1, ex1⟩ : ∃ z : Int32, z = v1c94 + (1 : Int32) := ⟨_, rfl⟩
        refine lv_iinc (v := x1) (lv' := [(1, .int x1), (0, .ref q_this)]) hx hb dX4_findWord_94 hl (k := 1) rfl (by rw [ex1]; rfl) (by decide) rfl (fun ls hl => ?_)
        have i_x1 : iv x1 1 17 := iv_add ex1 i_v1c94 (iv_lit (1 : Int32) (by decide) : iv (1 : Int32) 1 1) (by decide) (by decide) (by decide) (by decide)
        refine lv_goto (tgt := 2) hx hb dX4_findWord_97 (by decide) ?_
        exact ih2 x1 ls (iv_w i_x1 (by decide) (by decide)) (ms_up ex1 i_v1c94 (by decide) (by decide) hm2) (lv_sub hl [1, 0] rfl)
      have K67 : ∀ (v1c67 v3c67 : Int32) (ls : Array Slot), iv v1c67 0 16 → iv v3c67 0 40 → (20 - v1c67.toInt).toNat < n2 + 1 → lv_has ls 4 [(0, .ref q_this), (1, .int v1c67), (2, .ref (sw v1c67.toNatClampNeg)), (3, .int v3c67)] → W p l e rm_Reader_findWord s m args below meth c s.heap [] 0 0 Q (F0 m 67 ls []) := by
        intro v1c67 v3c67 ls i_v1c67 i_v3c67 hm2 hl
        have h2 : v1c67.toNatClampNeg < 17 := by have q := (i_v1c67).2; have q1 := (i_v1c67).1; show v1c67.toInt.toNat < 17; omega
        obtain ⟨n_sw_v1c67_toNatClampNeg, s_sw_v1c67_toNatClampNeg⟩ := hX.2.2.2.1 v1c67.toNatClampNeg h2
        have hn_sw_v1c67_toNatClampNeg := s_sw_v1c67_toNatClampNeg.1
        refine lv_iload_n hx hb dX4_findWord_67 rfl (lv_at hl 3 rfl) ?_
        refine lv_aload_n hx hb dX4_findWord_68 rfl (lv_at hl 2 rfl) ?_
        refine kePO (rest := [.int v3c67]) ⟨hx, hb, hml, hown, hts⟩ (c_J0_length l D ct (sw v1c67.toNatClampNeg) n_sw_v1c67_toNatClampNeg) (cwV 0 hts gX4_findWord_J0_length_8abf5 rfl rfl rfl (by decide +kernel) ⟨(Nat.le_of_ble_eq_true rfl), (Nat.le_of_ble_eq_true rfl)⟩) (ER_ok ad sw wa) (ES_ok (sw v1c67.toNatClampNeg) n_sw_v1c67_toNatClampNeg) (fun h => ⟨h.1, s_sw_v1c67_toNatClampNeg⟩) hX (va_S.rf (A := fun _ => False)) (s_sw_v1c67_toNatClampNeg.rec (va_S.rf (A := fun _ => False))) hK hP [] rfl rfl hl.1 rfl (Nat.le_of_ble_eq_true rfl) dX4_findWord_69 ⟨(Nat.le_of_ble_eq_true rfl), (Nat.le_of_ble_eq_true rfl)⟩ (fun r3 hr3 => ?_)
        have i_r3 : iv r3 0 40 := by rw [hr3]; exact nI_iv hn_sw_v1c67_toNatClampNeg.2 (by have := hn_sw_v1c67_toNatClampNeg.2; omega)
        have l_r3 : r3.toInt = (n_sw_v1c67_toNatClampNeg : Int) := by rw [hr3]; exact nI_toInt (by have := hn_sw_v1c67_toNatClampNeg.2; omega)
        refine lv_icmp_ne (tgt := 94) hx hb dX4_findWord_72 (by decide) (fun c4 => ?_) (fun c4 => ?_)
        ·
          exact K94 v1c67 ls i_v1c67 hm2 (lv_sub hl [0, 1] rfl)
        ·
          refine lv_aload_n hx hb dX4_findWord_75 rfl (lv_at hl 0 rfl) ?_
          refine va_get (D := D) (ci := 4) (v := .int x_this_start) (C := RX4) (T := TX4) (N := 11) hx hb hts hin_Reader hown hK hP 0 rfl rfl 6 (by decide) (hts (.fieldLink RX4 113 "GutterSeats$Reader" "start" "I") (by decide +kernel)) (fun _ h9 => h9) rfl dX4_findWord_76 ?_
          refine lv_iload_n hx hb dX4_findWord_79 rfl (lv_at hl 3 rfl) ?_
          refine lv_iadd hx hb dX4_findWord_80 ?_
          refine lv_topi (fun x5 ex5 => ?_)
          have i_x5 : iv x5 0 740 := iv_add ex5 i_x_this_start i_v3c67 (by decide) (by decide) (by decide) (by decide)
          refine lv_aload_n hx hb dX4_findWord_81 rfl (lv_at hl 0 rfl) ?_
          refine va_get (D := D) (ci := 4) (v := .int x_this_at) (C := RX4) (T := TX4) (N := 11) hx hb hts hin_Reader hown hK hP 0 rfl rfl 4 (by decide) (hts (.fieldLink RX4 104 "GutterSeats$Reader" "at" "I") (by decide +kernel)) (fun _ h9 => h9) rfl dX4_findWord_82 ?_
          refine lv_icmp_ne (tgt := 94) hx hb dX4_findWord_85 (by decide) (fun c6 => ?_) (fun c6 => ?_)
          ·
            exact K94 v1c67 ls i_v1c67 hm2 (lv_sub hl [0, 1] rfl)
          ·
            have j7 : iv x5 0 700 := by rw [c6]; exact i_x_this_at
            refine va_gets hx hb hX.2.2.2.2.1 (va_S.rf (A := fun _ => False)) hown (hts (.fieldLink RX4 245 "GutterSeats$Reader" "WORDS" "[LGutterSeats$Word;") (by decide +kernel)) (fun _ h9 => h9) dX4_findWord_88 ?_
            refine lv_iload_n hx hb dX4_findWord_91 rfl (lv_at hl 1 rfl) ?_
            have n8 : vp_in v1c67 17 := iv_in i_v1c67 (by decide) (by decide)
            refine vb_tq (v := .ref (ad v1c67.toNatClampNeg)) hx hb hX.2.2.2.2.2 (va_S.rf (A := fun _ => False)) n8 rfl dX4_findWord_92 ?_
            have h9 : v1c67.toNatClampNeg < 17 := (Nat.not_le.mp fun q => n8 (Or.inr q))
            exact hE (some v1c67.toNatClampNeg) _ _ (ew_some h9) dX4_findWord_93
      have K21 : ∀ (n21 : Nat) (v1c21 v3c21 : Int32) (ls : Array Slot), iv v1c21 0 16 → iv v3c21 0 40 → (40 - v3c21.toInt).toNat < n21 → (20 - v1c21.toInt).toNat < n2 + 1 → 0 ≤ v3c21.toInt → lv_has ls 4 [(0, .ref q_this), (1, .int v1c21), (2, .ref (sw v1c21.toNatClampNeg)), (3, .int v3c21)] → W p l e rm_Reader_findWord s m args below meth c s.heap [] 0 0 Q (F0 m 21 ls []) := by
        intro n21
        induction n21 with
        | zero => intro v1c21 v3c21 ls i_v1c21 i_v3c21 hm21 hm2 rl21_0 hl; exact absurd hm21 (Nat.not_lt_zero _)
        | succ n21 ih21 =>
          intro v1c21 v3c21 ls i_v1c21 i_v3c21 hm21 hm2 rl21_0 hl
          have h10 : v1c21.toNatClampNeg < 17 := by have q := (i_v1c21).2; have q1 := (i_v1c21).1; show v1c21.toInt.toNat < 17; omega
          obtain ⟨n_sw_v1c21_toNatClampNeg, s_sw_v1c21_toNatClampNeg⟩ := hX.2.2.2.1 v1c21.toNatClampNeg h10
          have hn_sw_v1c21_toNatClampNeg := s_sw_v1c21_toNatClampNeg.1
          refine lv_iload_n hx hb dX4_findWord_21 rfl (lv_at hl 3 rfl) ?_
          refine lv_aload_n hx hb dX4_findWord_22 rfl (lv_at hl 2 rfl) ?_
          refine kePO (rest := [.int v3c21]) ⟨hx, hb, hml, hown, hts⟩ (c_J0_length l D ct (sw v1c21.toNatClampNeg) n_sw_v1c21_toNatClampNeg) (cwV 0 hts gX4_findWord_J0_length_8abf5 rfl rfl rfl (by decide +kernel) ⟨(Nat.le_of_ble_eq_true rfl), (Nat.le_of_ble_eq_true rfl)⟩) (ER_ok ad sw wa) (ES_ok (sw v1c21.toNatClampNeg) n_sw_v1c21_toNatClampNeg) (fun h => ⟨h.1, s_sw_v1c21_toNatClampNeg⟩) hX (va_S.rf (A := fun _ => False)) (s_sw_v1c21_toNatClampNeg.rec (va_S.rf (A := fun _ => False))) hK hP [] rfl rfl hl.1 rfl (Nat.le_of_ble_eq_true rfl) dX4_findWord_23 ⟨(Nat.le_of_ble_eq_true rfl), (Nat.le_of_ble_eq_true rfl)⟩ (fun r11 hr11 => ?_)
          have i_r11 : iv r11 0 40 := by rw [hr11]; exact nI_iv hn_sw_v1c21_toNatClampNeg.2 (by have := hn_sw_v1c21_toNatClampNeg.2; omega)
          have l_r11 : r11.toInt = (n_sw_v1c21_toNatClampNeg : Int) := by rw [hr11]; exact nI_toInt (by have := hn_sw_v1c21_toNatClampNeg.2; omega)
          refine lv_icmp_ge (tgt := 67) hx hb dX4_findWord_26 (by decide) (fun c12 => ?_) (fun c12 => ?_)
          ·
            exact K67 v1c21 v3c21 ls i_v1c21 i_v3c21 hm2 (lv_sub hl [0, 1, 2, 3] rfl)
          ·
            have j13 : iv v3c21 0 39 := iv_ltL (iv_nle c12) i_v3c21 i_r11 (by decide)
            have j14 : iv r11 1 40 := iv_ltR (iv_nle c12) i_v3c21 i_r11 (by decide)
            refine lv_aload_n hx hb dX4_findWord_29 rfl (lv_at hl 0 rfl) ?_
            refine va_get (D := D) (ci := 4) (v := .int x_this_start) (C := RX4) (T := TX4) (N := 11) hx hb hts hin_Reader hown hK hP 0 rfl rfl 6 (by decide) (hts (.fieldLink RX4 113 "GutterSeats$Reader" "start" "I") (by decide +kernel)) (fun _ h9 => h9) rfl dX4_findWord_30 ?_
            refine lv_iload_n hx hb dX4_findWord_33 rfl (lv_at hl 3 rfl) ?_
            refine lv_iadd hx hb dX4_findWord_34 ?_
            refine lv_topi (fun x15 ex15 => ?_)
            have i_x15 : iv x15 0 739 := iv_add ex15 i_x_this_start j13 (by decide) (by decide) (by decide) (by decide)
            refine lv_aload_n hx hb dX4_findWord_35 rfl (lv_at hl 0 rfl) ?_
            refine va_get (D := D) (ci := 4) (v := .int x_this_at) (C := RX4) (T := TX4) (N := 11) hx hb hts hin_Reader hown hK hP 0 rfl rfl 4 (by decide) (hts (.fieldLink RX4 104 "GutterSeats$Reader" "at" "I") (by decide +kernel)) (fun _ h9 => h9) rfl dX4_findWord_36 ?_
            refine lv_icmp_ge (tgt := 67) hx hb dX4_findWord_39 (by decide) (fun c16 => ?_) (fun c16 => ?_)
            ·
              exact K67 v1c21 v3c21 ls i_v1c21 (iv_w j13 (by decide) (by decide)) hm2 (lv_sub hl [0, 1, 2, 3] rfl)
            ·
              have j17 : iv x15 0 699 := iv_ltL (iv_nle c16) i_x15 i_x_this_at (by decide)
              have j18 : iv x_this_at 1 700 := iv_ltR (iv_nle c16) i_x15 i_x_this_at (by decide)
              refine lv_aload_n hx hb dX4_findWord_42 rfl (lv_at hl 2 rfl) ?_
              refine lv_iload_n hx hb dX4_findWord_43 rfl (lv_at hl 3 rfl) ?_
              refine kePO (rest := []) ⟨hx, hb, hml, hown, hts⟩ (c_J0_charAt l D ct (sw v1c21.toNatClampNeg) n_sw_v1c21_toNatClampNeg v3c21 (by have := rl21_0; have := hn_sw_v1c21_toNatClampNeg; have := l_r11; have := (j13).1; have := (j13).2; have := (j14).1; have := (j14).2; have := (j17).1; have := (j17).2; have := (i_x_this_start).1; have := (i_x_this_start).2; have := (j18).1; have := (j18).2; have := lt_i (iv_nle c12); have := lt_i (iv_nle c16); have : x15.toInt = x_this_start.toInt + v3c21.toInt := (by rw [ex15]; exact iv_tadd (by omega) (by omega)); omega) (by have := rl21_0; have := hn_sw_v1c21_toNatClampNeg; have := l_r11; have := (j13).1; have := (j13).2; have := (j14).1; have := (j14).2; have := (j17).1; have := (j17).2; have := (i_x_this_start).1; have := (i_x_this_start).2; have := (j18).1; have := (j18).2; have := lt_i (iv_nle c12); have := lt_i (iv_nle c16); have : x15.toInt = x_this_start.toInt + v3c21.toInt := (by rw [ex15]; exact iv_tadd (by omega) (by omega)); omega) hn_sw_v1c21_toNatClampNeg.2) (cwV 1 hts gX4_findWord_J0_charAt_5068e rfl rfl rfl (by decide +kernel) ⟨(Nat.le_of_ble_eq_true rfl), (Nat.le_of_ble_eq_true rfl)⟩) (ER_ok ad sw wa) (ES_ok (sw v1c21.toNatClampNeg) n_sw_v1c21_toNatClampNeg) (fun h => ⟨h.1, s_sw_v1c21_toNatClampNeg⟩) hX (va_S.rf (A := fun _ => False)) (s_sw_v1c21_toNatClampNeg.rec (va_S.rf (A := fun _ => False))) hK hP [] rfl rfl hl.1 rfl (Nat.le_of_ble_eq_true rfl) dX4_findWord_44 ⟨(Nat.le_of_ble_eq_true rfl), (Nat.le_of_ble_eq_true rfl)⟩ (fun r19 hr19 => ?_)
              refine lv_aload_n hx hb dX4_findWord_47 rfl (lv_at hl 0 rfl) ?_
              refine va_get (D := D) (ci := 4) (v := .ref q_this_text) (C := RX4) (T := TX4) (N := 11) hx hb hts hin_Reader hown hK hP 0 rfl rfl 2 (by decide) (hts (.fieldLink RX4 22 "GutterSeats$Reader" "text" "[B") (by decide +kernel)) (fun _ h9 => h9) rfl dX4_findWord_48 ?_
              refine lv_aload_n hx hb dX4_findWord_51 rfl (lv_at hl 0 rfl) ?_
              refine va_get (D := D) (ci := 4) (v := .int x_this_start) (C := RX4) (T := TX4) (N := 11) hx hb hts hin_Reader hown hK hP 0 rfl rfl 6 (by decide) (hts (.fieldLink RX4 113 "GutterSeats$Reader" "start" "I") (by decide +kernel)) (fun _ h9 => h9) rfl dX4_findWord_52 ?_
              refine lv_iload_n hx hb dX4_findWord_55 rfl (lv_at hl 3 rfl) ?_
              refine lv_iadd hx hb dX4_findWord_56 ?_
              refine lv_topi (fun x20 ex20 => ?_)
              have i_x20 : iv x20 0 739 := iv_add ex20 i_x_this_start j13 (by decide) (by decide) (by decide) (by decide)
              have n21 : vp_in x20 700 := vp_in_iff.mpr (by have := rl21_0; have := hn_sw_v1c21_toNatClampNeg; have := l_r11; have := (i_x20).1; have := (i_x20).2; have := (j13).1; have := (j13).2; have := (j14).1; have := (j14).2; have := (i_x_this_start).1; have := (i_x_this_start).2; have := (j17).1; have := (j17).2; have := (j18).1; have := (j18).2; have := lt_i (iv_nle c12); have := lt_i (iv_nle c16); have : x15.toInt = x_this_start.toInt + v3c21.toInt := (by rw [ex15]; exact iv_tadd (by omega) (by omega)); have : x20.toInt = x_this_start.toInt + v3c21.toInt := (by rw [ex20]; exact iv_tadd (by omega) (by omega)); omega)
              refine va_bald hx hb hK hP 1 1 rfl rfl n21 dX4_findWord_57 ?_
              refine lv_topi (fun x22 ex22 => ?_)
              refine lv_icmp_ne (tgt := 67) hx hb dX4_findWord_58 (by decide) (fun c23 => ?_) (fun c23 => ?_)
              ·
                exact K67 v1c21 v3c21 ls i_v1c21 (iv_w j13 (by decide) (by decide)) hm2 (lv_sub hl [0, 1, 2, 3] rfl)
              ·
                obtain ⟨x24, ex24⟩ : ∃ z : Int32, z = v3c21 + (1 : Int32) := ⟨_, rfl⟩
                refine lv_iinc (v := x24) (lv' := [(3, .int x24), (0, .ref q_this), (1, .int v1c21), (2, .ref (sw v1c21.toNatClampNeg))]) hx hb dX4_findWord_61 hl (k := 3) rfl (by rw [ex24]; rfl) (by decide) rfl (fun ls hl => ?_)
                have i_x24 : iv x24 1 40 := iv_add ex24 j13 (iv_lit (1 : Int32) (by decide) : iv (1 : Int32) 1 1) (by decide) (by decide) (by decide) (by decide)
                refine lv_goto (tgt := 21) hx hb dX4_findWord_64 (by decide) ?_
                exact ih21 v1c21 x24 ls i_v1c21 (iv_w i_x24 (by decide) (by decide)) (ms_up ex24 j13 (by decide) (by decide) hm21) hm2 (by have := rl21_0; have := hn_sw_v1c21_toNatClampNeg; have := l_r11; have := (i_x24).1; have := (i_x24).2; have := (j13).1; have := (j13).2; have := (j14).1; have := (j14).2; have : (1 : Int32).toInt = 1 := rfl; have := (j17).1; have := (j17).2; have := (i_x_this_start).1; have := (i_x_this_start).2; have := (j18).1; have := (j18).2; have := lt_i (iv_nle c12); have := lt_i (iv_nle c16); have : x15.toInt = x_this_start.toInt + v3c21.toInt := (by rw [ex15]; exact iv_tadd (by omega) (by omega)); have : x24.toInt = v3c21.toInt + (1 : Int32).toInt := (by rw [ex24]; exact iv_tadd (by omega) (by omega)); omega) (lv_sub hl [1, 2, 3, 0] rfl)
      refine lv_iload_n hx hb dX4_findWord_2 rfl (lv_at hl 1 rfl) ?_
      refine va_gets hx hb hX.2.2.2.2.1 (va_S.rf (A := fun _ => False)) hown (hts (.fieldLink RX4 245 "GutterSeats$Reader" "WORDS" "[LGutterSeats$Word;") (by decide +kernel)) (fun _ h9 => h9) dX4_findWord_3 ?_
      refine va_tlen (v := 17) hx hb hX.2.2.2.2.2 (va_S.rf (A := fun _ => False)) rfl dX4_findWord_6 ?_
      refine lv_icmp_ge (tgt := 100) hx hb dX4_findWord_7 (by decide) (fun c25 => ?_) (fun c25 => ?_)
      ·
        have j26 : iv v1c2 17 20 := iv_leR c25 (iv_lit (17 : Int32) (by decide) : iv (17 : Int32) 17 17) i_v1c2 (by decide)
        refine lv_null hx hb dX4_findWord_100 ?_
        exact hE none _ _ ew_none dX4_findWord_101
      ·
        have j27 : iv v1c2 0 16 := iv_ltL (iv_nle c25) i_v1c2 (iv_lit (17 : Int32) (by decide) : iv (17 : Int32) 17 17) (by decide)
        refine va_gets hx hb hX.2.2.2.2.1 (va_S.rf (A := fun _ => False)) hown (hts (.fieldLink RX4 245 "GutterSeats$Reader" "WORDS" "[LGutterSeats$Word;") (by decide +kernel)) (fun _ h9 => h9) dX4_findWord_10 ?_
        refine lv_iload_n hx hb dX4_findWord_13 rfl (lv_at hl 1 rfl) ?_
        have n28 : vp_in v1c2 17 := iv_in j27 (by decide) (by decide)
        refine vb_tq (v := .ref (ad v1c2.toNatClampNeg)) hx hb hX.2.2.2.2.2 (va_S.rf (A := fun _ => False)) n28 rfl dX4_findWord_14 ?_
        have h29 : v1c2.toNatClampNeg < 17 := (Nat.not_le.mp fun q => n28 (Or.inr q))
        refine va_getX (i := v1c2.toNatClampNeg) hx hb hX.2.2.1 h29 (va_S.rf (A := fun _ => False)) hown (hts (.fieldLink RX4 249 "GutterSeats$Word" "letters" "Ljava/lang/String;") (by decide +kernel)) (fun _ h9 => h9) dX4_findWord_15 ?_
        obtain ⟨n_sw_v1c2_toNatClampNeg, s_sw_v1c2_toNatClampNeg⟩ := hX.2.2.2.1 v1c2.toNatClampNeg h29
        have hn_sw_v1c2_toNatClampNeg := s_sw_v1c2_toNatClampNeg.1
        refine lv_astore_n (lv' := [(2, .ref (sw v1c2.toNatClampNeg)), (0, .ref q_this), (1, .int v1c2)]) hx hb dX4_findWord_18 rfl hl (by decide) rfl (fun ls hl => ?_)
        refine lv_iconst (v := 0) hx hb dX4_findWord_19 (by decide) ?_
        refine lv_istore_n (lv' := [(3, .int (0 : Int32)), (2, .ref (sw v1c2.toNatClampNeg)), (0, .ref q_this), (1, .int v1c2)]) hx hb dX4_findWord_20 rfl hl (by decide) rfl (fun ls hl => ?_)
        exact K21 _ v1c2 (0 : Int32) ls j27 (iv_lit (0 : Int32) (by decide) : iv (0 : Int32) 0 40) (Nat.lt_succ_self _) hm2 (by have := hn_sw_v1c2_toNatClampNeg; have : (0 : Int32).toInt = 0 := rfl; omega) (lv_sub hl [2, 3, 1, 0] rfl)
  refine lv_iconst (v := 0) hx hb dX4_findWord_0 (by decide) ?_
  refine lv_istore_n (lv' := [(1, .int (0 : Int32)), (0, .ref q_this)]) hx hb dX4_findWord_1 rfl hl (by decide) rfl (fun ls hl => ?_)
  exact K2 _ (0 : Int32) ls (iv_lit (0 : Int32) (by decide) : iv (0 : Int32) 0 20) (Nat.lt_succ_self _) (lv_sub hl [1, 0] rfl)
abbrev rm_Reader_findNumber : Room := { frames := 0, cells := 0, slots := 0, locals := 0 }
set_option maxHeartbeats 4000000 in
set_option maxRecDepth 100000 in
theorem c_Reader_findNumber (l : Launch) (D : va_G) (ct : Nat → ClassId) (ad : Nat → Nat) (q_this q_this_text q_this_draft q_this_rule : Nat) (x_this_place x_this_length x_this_at x_this_kind x_this_start x_this_number x_this_found : Int32) (f_this_text : Nat → Int32) (w_this_word : Option Nat) (i_x_this_length : iv x_this_length 0 700) (i_x_this_at : iv x_this_at 0 700) (i_x_this_start : iv x_this_start 0 700) (e_w_this_word : ew w_this_word) (i_x_this_number : iv x_this_number 0 10006) (i_x_this_found : iv x_this_found 0 5) (hdg : dg f_this_text x_this_start.toNatClampNeg x_this_at.toNatClampNeg) : cP l yX4_findNumber wsX4_findNumber rm_Reader_findNumber D ct [(q_this, .inr (4, [.ref q_this_draft, .int x_this_place, .ref q_this_text, .int x_this_length, .int x_this_at, .int x_this_kind, .int x_this_start, (va_re ad w_this_word), .int x_this_number, .ref q_this_rule, .int x_this_found])), (q_this_text, .inl (ct 1, 700, .inl f_this_text))] [.ref q_this] (fun r : Int32 => iv r 0 10000) := by
  refine cP_of (cc := cX4_findNumber) (maxL := 3) (by decide) rfl (Nat.le_of_ble_eq_true rfl) ?_
  intro p e s m args below meth c Q hx hb hml hts hown hK hP hE ls hl
  have hl : lv_has ls 3 [(0, .ref q_this)] := hl
  have hin_Reader : ∀ w ∈ u_ws RX4 TX4 11, w ∈ wsX4_findNumber := by decide +kernel
  have K24 : ∀ (n24 : Nat) (v1c24 v2c24 : Int32) (ls : Array Slot), iv v2c24 0 700 → (700 - v2c24.toInt).toNat < n24 → (v2c24.toInt - x_this_start.toInt = 0 ∧ 0 ≤ v1c24.toInt ∧ v1c24.toInt ≤ 0) ∨ (v2c24.toInt - x_this_start.toInt = 1 ∧ 0 ≤ v1c24.toInt ∧ v1c24.toInt ≤ 9) ∨ (v2c24.toInt - x_this_start.toInt = 2 ∧ 0 ≤ v1c24.toInt ∧ v1c24.toInt ≤ 99) ∨ (v2c24.toInt - x_this_start.toInt = 3 ∧ 0 ≤ v1c24.toInt ∧ v1c24.toInt ≤ 999) ∨ (v2c24.toInt - x_this_start.toInt = 4 ∧ 0 ≤ v1c24.toInt ∧ v1c24.toInt ≤ 9999) → x_this_at.toInt - x_this_start.toInt ≤ 4 → lv_has ls 3 [(0, .ref q_this), (1, .int v1c24), (2, .int v2c24)] → W p l e rm_Reader_findNumber s m args below meth c s.heap [] 0 0 Q (F0 m 24 ls []) := by
    intro n24
    induction n24 with
    | zero => intro v1c24 v2c24 ls i_v2c24 hm24 rl24_0 rl24_1 hl; exact absurd hm24 (Nat.not_lt_zero _)
    | succ n24 ih24 =>
      intro v1c24 v2c24 ls i_v2c24 hm24 rl24_0 rl24_1 hl
      refine lv_iload_n hx hb dX4_findNumber_24 rfl (lv_at hl 2 rfl) ?_
      refine lv_aload_n hx hb dX4_findNumber_25 rfl (lv_at hl 0 rfl) ?_
      refine va_get (D := D) (ci := 4) (v := .int x_this_at) (C := RX4) (T := TX4) (N := 11) hx hb hts hin_Reader hown hK hP 0 rfl rfl 4 (by decide) (hts (.fieldLink RX4 104 "GutterSeats$Reader" "at" "I") (by decide +kernel)) (fun _ h9 => h9) rfl dX4_findNumber_26 ?_
      refine lv_icmp_ge (tgt := 53) hx hb dX4_findNumber_29 (by decide) (fun c1 => ?_) (fun c1 => ?_)
      ·
        refine lv_iload_n hx hb dX4_findNumber_53 rfl (lv_at hl 1 rfl) ?_
        exact hE _ _ _ (show iv v1c24 0 10000 from by unfold iv; have := rl24_0; have := rl24_1; have := hdg; have := iv_rng v1c24; have := (i_v2c24).1; have := (i_v2c24).2; have := (i_x_this_start).1; have := (i_x_this_start).2; have := (i_x_this_at).1; have := (i_x_this_at).2; have := le_i c1; omega) dX4_findNumber_54
      ·
        have j2 : iv v2c24 0 699 := iv_ltL (iv_nle c1) i_v2c24 i_x_this_at (by decide)
        have j3 : iv x_this_at 1 700 := iv_ltR (iv_nle c1) i_v2c24 i_x_this_at (by decide)
        refine lv_bipush (v := 10) hx hb dX4_findNumber_32 (by decide) ?_
        refine lv_iload_n hx hb dX4_findNumber_34 rfl (lv_at hl 1 rfl) ?_
        refine lv_imul hx hb dX4_findNumber_35 ?_
        refine lv_topi (fun x4 ex4 => ?_)
        refine lv_aload_n hx hb dX4_findNumber_36 rfl (lv_at hl 0 rfl) ?_
        refine va_get (D := D) (ci := 4) (v := .ref q_this_text) (C := RX4) (T := TX4) (N := 11) hx hb hts hin_Reader hown hK hP 0 rfl rfl 2 (by decide) (hts (.fieldLink RX4 22 "GutterSeats$Reader" "text" "[B") (by decide +kernel)) (fun _ h9 => h9) rfl dX4_findNumber_37 ?_
        refine lv_iload_n hx hb dX4_findNumber_40 rfl (lv_at hl 2 rfl) ?_
        have n5 : vp_in v2c24 700 := iv_in j2 (by decide) (by decide)
        refine va_bald hx hb hK hP 1 1 rfl rfl n5 dX4_findNumber_41 ?_
        refine lv_topi (fun x6 ex6 => ?_)
        have i_x6 : iv x6 48 57 := dg_at hdg ex6 (by have := rl24_0; have := rl24_1; have := hdg; have := (j2).1; have := (j2).2; have := (i_x_this_start).1; have := (i_x_this_start).2; have := iv_rng v1c24; have := (j3).1; have := (j3).2; have := lt_i (iv_nle c1); omega) (by have := rl24_0; have := rl24_1; have := hdg; have := (i_x_this_start).1; have := (i_x_this_start).2; have := (j2).1; have := (j2).2; have := iv_rng v1c24; have := (j3).1; have := (j3).2; have := lt_i (iv_nle c1); omega) (by have := rl24_0; have := rl24_1; have := hdg; have := (j2).1; have := (j2).2; have := (j3).1; have := (j3).2; have := (i_x_this_start).1; have := (i_x_this_start).2; have := iv_rng v1c24; have := lt_i (iv_nle c1); omega)
        refine lv_iadd hx hb dX4_findNumber_42 ?_
        refine lv_topi (fun x7 ex7 => ?_)
        refine lv_bipush (v := 48) hx hb dX4_findNumber_43 (by decide) ?_
        refine lv_isub hx hb dX4_findNumber_45 ?_
        refine lv_topi (fun x8 ex8 => ?_)
        refine lv_istore_n (lv' := [(1, .int x8), (0, .ref q_this), (2, .int v2c24)]) hx hb dX4_findNumber_46 rfl hl (by decide) rfl (fun ls hl => ?_)
        obtain ⟨x9, ex9⟩ : ∃ z : Int32, z = v2c24 + (1 : Int32) := ⟨_, rfl⟩
        refine lv_iinc (v := x9) (lv' := [(2, .int x9), (1, .int x8), (0, .ref q_this)]) hx hb dX4_findNumber_47 hl (k := 2) rfl (by rw [ex9]; rfl) (by decide) rfl (fun ls hl => ?_)
        have i_x9 : iv x9 1 700 := iv_add ex9 j2 (iv_lit (1 : Int32) (by decide) : iv (1 : Int32) 1 1) (by decide) (by decide) (by decide) (by decide)
        refine lv_goto (tgt := 24) hx hb dX4_findNumber_50 (by decide) ?_
        exact ih24 x8 x9 ls (iv_w i_x9 (by decide) (by decide)) (ms_up ex9 j2 (by decide) (by decide) hm24) (by have := rl24_0; have := rl24_1; have := hdg; have := (i_x9).1; have := (i_x9).2; have := (i_x_this_start).1; have := (i_x_this_start).2; have := iv_rng x8; have := (j2).1; have := (j2).2; have := iv_rng v1c24; have := (j3).1; have := (j3).2; have : (1 : Int32).toInt = 1 := rfl; have := iv_rng x7; have : (48 : Int32).toInt = 48 := rfl; have := iv_rng x4; have := (i_x6).1; have := (i_x6).2; have := lt_i (iv_nle c1); have : x4.toInt = 10 * v1c24.toInt := (by have q : (10 : Int32).toInt = 10 := rfl; rw [ex4, iv_tmul (by rw [q]; omega) (by rw [q]; omega), q]); have : x7.toInt = x4.toInt + x6.toInt := (by rw [ex7]; exact iv_tadd (by omega) (by omega)); have : x8.toInt = x7.toInt - (48 : Int32).toInt := (by rw [ex8]; exact iv_tsub (by omega) (by omega)); have : x9.toInt = v2c24.toInt + (1 : Int32).toInt := (by rw [ex9]; exact iv_tadd (by omega) (by omega)); omega) rl24_1 (lv_sub hl [2, 1, 0] rfl)
  refine lv_aload_n hx hb dX4_findNumber_0 rfl (lv_at hl 0 rfl) ?_
  refine va_get (D := D) (ci := 4) (v := .int x_this_at) (C := RX4) (T := TX4) (N := 11) hx hb hts hin_Reader hown hK hP 0 rfl rfl 4 (by decide) (hts (.fieldLink RX4 104 "GutterSeats$Reader" "at" "I") (by decide +kernel)) (fun _ h9 => h9) rfl dX4_findNumber_1 ?_
  refine lv_aload_n hx hb dX4_findNumber_4 rfl (lv_at hl 0 rfl) ?_
  refine va_get (D := D) (ci := 4) (v := .int x_this_start) (C := RX4) (T := TX4) (N := 11) hx hb hts hin_Reader hown hK hP 0 rfl rfl 6 (by decide) (hts (.fieldLink RX4 113 "GutterSeats$Reader" "start" "I") (by decide +kernel)) (fun _ h9 => h9) rfl dX4_findNumber_5 ?_
  refine lv_isub hx hb dX4_findNumber_8 ?_
  refine lv_topi (fun x10 ex10 => ?_)
  have i_x10 : iv x10 (-700) 700 := iv_sub ex10 i_x_this_at i_x_this_start (by decide) (by decide) (by decide) (by decide)
  refine lv_iconst (v := 4) hx hb dX4_findNumber_9 (by decide) ?_
  refine lv_icmp_le (tgt := 17) hx hb dX4_findNumber_10 (by decide) (fun c11 => ?_) (fun c11 => ?_)
  ·
    have j12 : iv x10 (-700) 4 := iv_leL c11 i_x10 (iv_lit (4 : Int32) (by decide) : iv (4 : Int32) 4 4) (by decide)
    refine lv_iconst (v := 0) hx hb dX4_findNumber_17 (by decide) ?_
    refine lv_istore_n (lv' := [(1, .int (0 : Int32)), (0, .ref q_this)]) hx hb dX4_findNumber_18 rfl hl (by decide) rfl (fun ls hl => ?_)
    refine lv_aload_n hx hb dX4_findNumber_19 rfl (lv_at hl 1 rfl) ?_
    refine va_get (D := D) (ci := 4) (v := .int x_this_start) (C := RX4) (T := TX4) (N := 11) hx hb hts hin_Reader hown hK hP 0 rfl rfl 6 (by decide) (hts (.fieldLink RX4 113 "GutterSeats$Reader" "start" "I") (by decide +kernel)) (fun _ h9 => h9) rfl dX4_findNumber_20 ?_
    refine lv_istore_n (lv' := [(2, .int x_this_start), (1, .int (0 : Int32)), (0, .ref q_this)]) hx hb dX4_findNumber_23 rfl hl (by decide) rfl (fun ls hl => ?_)
    exact K24 _ (0 : Int32) x_this_start ls i_x_this_start (Nat.lt_succ_self _) (by have := hdg; have := (i_x_this_start).1; have := (i_x_this_start).2; have : (0 : Int32).toInt = 0 := rfl; have := (j12).1; have := (j12).2; have := (i_x_this_at).1; have := (i_x_this_at).2; have : (4 : Int32).toInt = 4 := rfl; have := le_i c11; have : x10.toInt = x_this_at.toInt - x_this_start.toInt := (by rw [ex10]; exact iv_tsub (by omega) (by omega)); omega) (by have := hdg; have := (i_x_this_at).1; have := (i_x_this_at).2; have := (i_x_this_start).1; have := (i_x_this_start).2; have := (j12).1; have := (j12).2; have : (4 : Int32).toInt = 4 := rfl; have := le_i c11; have : x10.toInt = x_this_at.toInt - x_this_start.toInt := (by rw [ex10]; exact iv_tsub (by omega) (by omega)); omega) (lv_sub hl [2, 1, 0] rfl)
  ·
    have j13 : iv x10 5 700 := iv_ltR (iv_nle c11) (iv_lit (4 : Int32) (by decide) : iv (4 : Int32) 4 4) i_x10 (by decide)
    refine lv_sipush (v := 10000) hx hb dX4_findNumber_13 (by decide) ?_
    exact hE _ _ _ (iv_lit (10000 : Int32) (by decide) : iv (10000 : Int32) 0 10000) dX4_findNumber_16
abbrev rm_Reader_advance : Room := { frames := 5, cells := 0, slots := 0, locals := 164 }
set_option maxHeartbeats 4000000 in
set_option maxRecDepth 100000 in
theorem c_Reader_advance (l : Launch) (D : va_G) (ct : Nat → ClassId) (ad sw : Nat → Nat) (wa : Nat) (q_this q_this_text q_this_draft q_this_rule : Nat) (sz : Nat) (x_this_place x_this_length x_this_at x_this_kind x_this_start x_this_number x_this_found : Int32) (f_this_text : Nat → Int32) (w_this_word : Option Nat) (i_x_this_length : iv x_this_length 0 700) (i_x_this_at : iv x_this_at 0 700) (i_x_this_start : iv x_this_start 0 700) (e_w_this_word : ew w_this_word) (i_x_this_number : iv x_this_number 0 10006) (i_x_this_found : iv x_this_found 0 5) : eV (ER ad sw wa) l yX4_advance wsX4_advance rm_Reader_advance D ct [(q_this, .inr (4, [.ref q_this_draft, .int x_this_place, .ref q_this_text, .int x_this_length, .int x_this_at, .int x_this_kind, .int x_this_start, (va_re ad w_this_word), .int x_this_number, .ref q_this_rule, .int x_this_found])), (q_this_text, .inl (ct 1, 700, .inl f_this_text))] sz [.ref q_this] (fun u : Int32 × Int32 × Int32 × Int32 × (Option Nat) => iv u.1 0 700 ∧ iv u.2.1 0 700 ∧ iv u.2.2.2.1 0 10006 ∧ ew u.2.2.2.2) (fun u : Int32 × Int32 × Int32 × Int32 × (Option Nat) => [(q_this, .inr (4, [.ref q_this_draft, .int x_this_place, .ref q_this_text, .int x_this_length, .int u.1, .int u.2.2.1, .int u.2.1, (va_re ad u.2.2.2.2), .int u.2.2.2.1, .ref q_this_rule, .int x_this_found])), (q_this_text, .inl (ct 1, 700, .inl f_this_text))]) := by
  refine eV_of (cc := cX4_advance) (maxL := 1) (by decide) rfl (Nat.le_of_ble_eq_true rfl) ?_
  intro p e s m args below meth c Q A hx hb hml hts hown hK hP hD hA hX hE ls hl
  have hS : va_S A s.heap s.heap [] := va_S.rf
  have hP : va_P D vwCl [(q_this, .inr (4, [.ref q_this_draft, .int x_this_place, .ref q_this_text, .int x_this_length, .int x_this_at, .int x_this_kind, .int x_this_start, (va_re ad w_this_word), .int x_this_number, .ref q_this_rule, .int x_this_found])), (q_this_text, .inl (ct 1, 700, .inl f_this_text))] s.heap := hP
  have hD : va_D A [(q_this, .inr (4, [.ref q_this_draft, .int x_this_place, .ref q_this_text, .int x_this_length, .int x_this_at, .int x_this_kind, .int x_this_start, (va_re ad w_this_word), .int x_this_number, .ref q_this_rule, .int x_this_found])), (q_this_text, .inl (ct 1, 700, .inl f_this_text))] := hD
  have hl : lv_has ls 1 [(0, .ref q_this)] := hl
  have hin_Reader : ∀ w ∈ u_ws RX4 TX4 11, w ∈ wsX4_advance := by decide +kernel
  refine lv_aload_n hx hb dX4_advance_0 rfl (lv_at hl 0 rfl) ?_
  refine lv_aload_n hx hb dX4_advance_1 rfl (lv_at hl 0 rfl) ?_
  refine lv_aload_n hx hb dX4_advance_2 rfl (lv_at hl 0 rfl) ?_
  refine va_get (D := D) (ci := 4) (v := .int x_this_at) (C := RX4) (T := TX4) (N := 11) hx hb hts hin_Reader hown hK hP 0 rfl rfl 4 (by decide) (hts (.fieldLink RX4 104 "GutterSeats$Reader" "at" "I") (by decide +kernel)) (fun _ h9 => h9) rfl dX4_advance_3 ?_
  refine lv_iconst (v := 3) hx hb dX4_advance_6 (by decide) ?_
  refine kPV (rest := [.ref q_this]) (ci := 4) ⟨hx, hb, hml, hown, hts⟩ (c_Reader_endOfRow l D ct ad q_this q_this_text q_this_draft q_this_rule x_this_place x_this_length x_this_at x_this_kind x_this_start x_this_number x_this_found f_this_text w_this_word x_this_at (3 : Int32) i_x_this_length i_x_this_at i_x_this_start e_w_this_word i_x_this_number i_x_this_found i_x_this_at) (cwV 2 hts gX4_advance_X4_endOfRow rfl rfl rfl (by decide +kernel) ⟨(Nat.le_of_ble_eq_true rfl), (Nat.le_of_ble_eq_true rfl)⟩) hK hP [0, 1] rfl rfl rfl rfl rfl hl.1 rfl (Nat.le_of_ble_eq_true rfl) dX4_advance_7 ⟨(Nat.le_of_ble_eq_true rfl), (Nat.le_of_ble_eq_true rfl)⟩ (fun r1 hr1 => ?_)
  have i_r1 : iv r1 0 700 := hr1.1
  have g2 : x_this_at.toInt ≤ r1.toInt ∨ r1.toInt = x_this_length.toInt := hr1.2
  refine va_put (D := D) (ci := 4) (v := .int r1) (ty := .int) (C := RX4) (T := TX4) (N := 11) hx hb hts hin_Reader tyX4 tyX4_ok nmX4 hown hK hP hD hS 0 rfl rfl 4 (by decide) (hts (.fieldLink RX4 104 "GutterSeats$Reader" "at" "I") (by decide +kernel)) (fun _ h9 => h9) rfl (by decide +kernel) rfl rfl (Nat.le_of_ble_eq_true rfl) dX4_advance_10 (fun H locs hP hD hS => ?_)
  have hP : va_P D vwCl [(q_this, .inr (4, [.ref q_this_draft, .int x_this_place, .ref q_this_text, .int x_this_length, .int r1, .int x_this_kind, .int x_this_start, (va_re ad w_this_word), .int x_this_number, .ref q_this_rule, .int x_this_found])), (q_this_text, .inl (ct 1, 700, .inl f_this_text))] H := hP
  have hD : va_D A [(q_this, .inr (4, [.ref q_this_draft, .int x_this_place, .ref q_this_text, .int x_this_length, .int r1, .int x_this_kind, .int x_this_start, (va_re ad w_this_word), .int x_this_number, .ref q_this_rule, .int x_this_found])), (q_this_text, .inl (ct 1, 700, .inl f_this_text))] := hD
  refine lv_aload_n hx hb dX4_advance_13 rfl (lv_at hl 0 rfl) ?_
  refine lv_aload_n hx hb dX4_advance_14 rfl (lv_at hl 0 rfl) ?_
  refine va_get (D := D) (ci := 4) (v := .int r1) (C := RX4) (T := TX4) (N := 11) hx hb hts hin_Reader hown hK hP 0 rfl rfl 4 (by decide) (hts (.fieldLink RX4 104 "GutterSeats$Reader" "at" "I") (by decide +kernel)) (fun _ h9 => h9) rfl dX4_advance_15 ?_
  refine va_put (D := D) (ci := 4) (v := .int r1) (ty := .int) (C := RX4) (T := TX4) (N := 11) hx hb hts hin_Reader tyX4 tyX4_ok nmX4 hown hK hP hD hS 0 rfl rfl 6 (by decide) (hts (.fieldLink RX4 113 "GutterSeats$Reader" "start" "I") (by decide +kernel)) (fun _ h9 => h9) rfl (by decide +kernel) rfl rfl (Nat.le_of_ble_eq_true rfl) dX4_advance_18 (fun H locs hP hD hS => ?_)
  have hP : va_P D vwCl [(q_this, .inr (4, [.ref q_this_draft, .int x_this_place, .ref q_this_text, .int x_this_length, .int r1, .int x_this_kind, .int r1, (va_re ad w_this_word), .int x_this_number, .ref q_this_rule, .int x_this_found])), (q_this_text, .inl (ct 1, 700, .inl f_this_text))] H := hP
  have hD : va_D A [(q_this, .inr (4, [.ref q_this_draft, .int x_this_place, .ref q_this_text, .int x_this_length, .int r1, .int x_this_kind, .int r1, (va_re ad w_this_word), .int x_this_number, .ref q_this_rule, .int x_this_found])), (q_this_text, .inl (ct 1, 700, .inl f_this_text))] := hD
  refine lv_aload_n hx hb dX4_advance_21 rfl (lv_at hl 0 rfl) ?_
  refine lv_null hx hb dX4_advance_22 ?_
  refine va_put (D := D) (ci := 4) (v := .null) (ty := .object "GutterSeats$Word") (C := RX4) (T := TX4) (N := 11) hx hb hts hin_Reader tyX4 tyX4_ok nmX4 hown hK hP hD hS 0 rfl rfl 7 (by decide) (hts (.fieldLink RX4 43 "GutterSeats$Reader" "word" "LGutterSeats$Word;") (by decide +kernel)) (fun _ h9 => h9) rfl (by decide +kernel) rfl rfl (Nat.le_of_ble_eq_true rfl) dX4_advance_23 (fun H locs hP hD hS => ?_)
  have hP : va_P D vwCl [(q_this, .inr (4, [.ref q_this_draft, .int x_this_place, .ref q_this_text, .int x_this_length, .int r1, .int x_this_kind, .int r1, (va_re ad none), .int x_this_number, .ref q_this_rule, .int x_this_found])), (q_this_text, .inl (ct 1, 700, .inl f_this_text))] H := hP
  have hD : va_D A [(q_this, .inr (4, [.ref q_this_draft, .int x_this_place, .ref q_this_text, .int x_this_length, .int r1, .int x_this_kind, .int r1, (va_re ad none), .int x_this_number, .ref q_this_rule, .int x_this_found])), (q_this_text, .inl (ct 1, 700, .inl f_this_text))] := hD
  refine lv_aload_n hx hb dX4_advance_26 rfl (lv_at hl 0 rfl) ?_
  refine va_get (D := D) (ci := 4) (v := .int r1) (C := RX4) (T := TX4) (N := 11) hx hb hts hin_Reader hown hK hP 0 rfl rfl 4 (by decide) (hts (.fieldLink RX4 104 "GutterSeats$Reader" "at" "I") (by decide +kernel)) (fun _ h9 => h9) rfl dX4_advance_27 ?_
  refine lv_aload_n hx hb dX4_advance_30 rfl (lv_at hl 0 rfl) ?_
  refine va_get (D := D) (ci := 4) (v := .int x_this_length) (C := RX4) (T := TX4) (N := 11) hx hb hts hin_Reader hown hK hP 0 rfl rfl 3 (by decide) (hts (.fieldLink RX4 101 "GutterSeats$Reader" "length" "I") (by decide +kernel)) (fun _ h9 => h9) rfl dX4_advance_31 ?_
  refine lv_icmp_lt (tgt := 43) hx hb dX4_advance_34 (by decide) (fun c3 => ?_) (fun c3 => ?_)
  ·
    have j4 : iv r1 0 699 := iv_ltL c3 i_r1 i_x_this_length (by decide)
    have j5 : iv x_this_length 1 700 := iv_ltR c3 i_r1 i_x_this_length (by decide)
    refine lv_aload_n hx hb dX4_advance_43 rfl (lv_at hl 0 rfl) ?_
    refine lv_aload_n hx hb dX4_advance_44 rfl (lv_at hl 0 rfl) ?_
    refine va_get (D := D) (ci := 4) (v := .ref q_this_text) (C := RX4) (T := TX4) (N := 11) hx hb hts hin_Reader hown hK hP 0 rfl rfl 2 (by decide) (hts (.fieldLink RX4 22 "GutterSeats$Reader" "text" "[B") (by decide +kernel)) (fun _ h9 => h9) rfl dX4_advance_45 ?_
    refine lv_aload_n hx hb dX4_advance_48 rfl (lv_at hl 0 rfl) ?_
    refine va_get (D := D) (ci := 4) (v := .int r1) (C := RX4) (T := TX4) (N := 11) hx hb hts hin_Reader hown hK hP 0 rfl rfl 4 (by decide) (hts (.fieldLink RX4 104 "GutterSeats$Reader" "at" "I") (by decide +kernel)) (fun _ h9 => h9) rfl dX4_advance_49 ?_
    have n6 : vp_in r1 700 := iv_in j4 (by decide) (by decide)
    refine va_bald hx hb hK hP 1 1 rfl rfl n6 dX4_advance_52 ?_
    refine lv_topi (fun x7 ex7 => ?_)
    refine kPS (rest := [.ref q_this]) ⟨hx, hb, hml, hown, hts⟩ (c_Reader_kindOf l D ct x7) (va_cwS 1 hts gX4_advance_X4_kindOf rfl rfl rfl (by decide +kernel) ⟨(Nat.le_of_ble_eq_true rfl), (Nat.le_of_ble_eq_true rfl)⟩) hK hP [] rfl rfl hl.1 rfl (Nat.le_of_ble_eq_true rfl) dX4_advance_53 ⟨(Nat.le_of_ble_eq_true rfl), (Nat.le_of_ble_eq_true rfl)⟩ (fun r8 hr8 => ?_)
    have g9 : r8.toInt ≠ 2 ∨ (48 ≤ x7.toInt ∧ x7.toInt ≤ 57) := hr8
    refine va_put (D := D) (ci := 4) (v := .int r8) (ty := .int) (C := RX4) (T := TX4) (N := 11) hx hb hts hin_Reader tyX4 tyX4_ok nmX4 hown hK hP hD hS 0 rfl rfl 5 (by decide) (hts (.fieldLink RX4 37 "GutterSeats$Reader" "kind" "I") (by decide +kernel)) (fun _ h9 => h9) rfl (by decide +kernel) rfl rfl (Nat.le_of_ble_eq_true rfl) dX4_advance_56 (fun H locs hP hD hS => ?_)
    have hP : va_P D vwCl [(q_this, .inr (4, [.ref q_this_draft, .int x_this_place, .ref q_this_text, .int x_this_length, .int r1, .int r8, .int r1, (va_re ad none), .int x_this_number, .ref q_this_rule, .int x_this_found])), (q_this_text, .inl (ct 1, 700, .inl f_this_text))] H := hP
    have hD : va_D A [(q_this, .inr (4, [.ref q_this_draft, .int x_this_place, .ref q_this_text, .int x_this_length, .int r1, .int r8, .int r1, (va_re ad none), .int x_this_number, .ref q_this_rule, .int x_this_found])), (q_this_text, .inl (ct 1, 700, .inl f_this_text))] := hD
    refine lv_aload_n hx hb dX4_advance_59 rfl (lv_at hl 0 rfl) ?_
    refine lv_aload_n hx hb dX4_advance_60 rfl (lv_at hl 0 rfl) ?_
    refine va_get (D := D) (ci := 4) (v := .int r8) (C := RX4) (T := TX4) (N := 11) hx hb hts hin_Reader hown hK hP 0 rfl rfl 5 (by decide) (hts (.fieldLink RX4 37 "GutterSeats$Reader" "kind" "I") (by decide +kernel)) (fun _ h9 => h9) rfl dX4_advance_61 ?_
    refine lv_iconst (v := 1) hx hb dX4_advance_64 (by decide) ?_
    refine lv_icmp_eq (tgt := 76) hx hb dX4_advance_65 (by decide) (fun c10 => ?_) (fun c10 => ?_)
    ·
      have j11 : iv r8 1 1 := by rw [c10]; exact (iv_lit (1 : Int32) (by decide) : iv (1 : Int32) 1 1)
      refine lv_aload_n hx hb dX4_advance_76 rfl (lv_at hl 0 rfl) ?_
      refine lv_aload_n hx hb dX4_advance_77 rfl (lv_at hl 0 rfl) ?_
      refine va_get (D := D) (ci := 4) (v := .int r1) (C := RX4) (T := TX4) (N := 11) hx hb hts hin_Reader hown hK hP 0 rfl rfl 4 (by decide) (hts (.fieldLink RX4 104 "GutterSeats$Reader" "at" "I") (by decide +kernel)) (fun _ h9 => h9) rfl dX4_advance_78 ?_
      refine lv_aload_n hx hb dX4_advance_81 rfl (lv_at hl 0 rfl) ?_
      refine va_get (D := D) (ci := 4) (v := .int r8) (C := RX4) (T := TX4) (N := 11) hx hb hts hin_Reader hown hK hP 0 rfl rfl 5 (by decide) (hts (.fieldLink RX4 37 "GutterSeats$Reader" "kind" "I") (by decide +kernel)) (fun _ h9 => h9) rfl dX4_advance_82 ?_
      refine kPV (rest := [.ref q_this]) (ci := 4) ⟨hx, hb, hml, hown, hts⟩ (c_Reader_endOfRow l D ct ad q_this q_this_text q_this_draft q_this_rule x_this_place x_this_length r1 r8 r1 x_this_number x_this_found f_this_text none r1 r8 (iv_w j5 (by decide) (by decide)) (iv_w j4 (by decide) (by decide)) (iv_w j4 (by decide) (by decide)) ew_none i_x_this_number i_x_this_found (iv_w j4 (by decide) (by decide))) (cwV 2 hts gX4_advance_X4_endOfRow rfl rfl rfl (by decide +kernel) ⟨(Nat.le_of_ble_eq_true rfl), (Nat.le_of_ble_eq_true rfl)⟩) hK hP [0, 1] rfl rfl rfl rfl rfl hl.1 rfl (Nat.le_of_ble_eq_true rfl) dX4_advance_85 ⟨(Nat.le_of_ble_eq_true rfl), (Nat.le_of_ble_eq_true rfl)⟩ (fun r12 hr12 => ?_)
      have i_r12 : iv r12 0 700 := hr12.1
      have g13 : r1.toInt ≤ r12.toInt ∨ r12.toInt = x_this_length.toInt := hr12.2
      refine lv_goto (tgt := 97) hx hb dX4_advance_88 (by decide) ?_
      refine va_put (D := D) (ci := 4) (v := .int r12) (ty := .int) (C := RX4) (T := TX4) (N := 11) hx hb hts hin_Reader tyX4 tyX4_ok nmX4 hown hK hP hD hS 0 rfl rfl 4 (by decide) (hts (.fieldLink RX4 104 "GutterSeats$Reader" "at" "I") (by decide +kernel)) (fun _ h9 => h9) rfl (by decide +kernel) rfl rfl (Nat.le_of_ble_eq_true rfl) dX4_advance_97 (fun H locs hP hD hS => ?_)
      have hP : va_P D vwCl [(q_this, .inr (4, [.ref q_this_draft, .int x_this_place, .ref q_this_text, .int x_this_length, .int r12, .int r8, .int r1, (va_re ad none), .int x_this_number, .ref q_this_rule, .int x_this_found])), (q_this_text, .inl (ct 1, 700, .inl f_this_text))] H := hP
      have hD : va_D A [(q_this, .inr (4, [.ref q_this_draft, .int x_this_place, .ref q_this_text, .int x_this_length, .int r12, .int r8, .int r1, (va_re ad none), .int x_this_number, .ref q_this_rule, .int x_this_found])), (q_this_text, .inl (ct 1, 700, .inl f_this_text))] := hD
      refine lv_aload_n hx hb dX4_advance_100 rfl (lv_at hl 0 rfl) ?_
      refine va_get (D := D) (ci := 4) (v := .int r8) (C := RX4) (T := TX4) (N := 11) hx hb hts hin_Reader hown hK hP 0 rfl rfl 5 (by decide) (hts (.fieldLink RX4 37 "GutterSeats$Reader" "kind" "I") (by decide +kernel)) (fun _ h9 => h9) rfl dX4_advance_101 ?_
      refine lv_iconst (v := 1) hx hb dX4_advance_104 (by decide) ?_
      refine lv_icmp_ne (tgt := 119) hx hb dX4_advance_105 (by decide) (fun c14 => ?_) (fun c14 => ?_)
      ·
        exact absurd c10 c14
      ·
        have j15 : iv r8 1 1 := by rw [c14]; exact (iv_lit (1 : Int32) (by decide) : iv (1 : Int32) 1 1)
        refine lv_aload_n hx hb dX4_advance_108 rfl (lv_at hl 0 rfl) ?_
        refine lv_aload_n hx hb dX4_advance_109 rfl (lv_at hl 0 rfl) ?_
        refine keEV (rest := [.ref q_this]) (ci := 4) ⟨hx, hb, hml, hown, hts⟩ (c_Reader_findWord l D ct ad sw wa q_this q_this_text q_this_draft q_this_rule x_this_place x_this_length r12 r8 r1 x_this_number x_this_found f_this_text none (iv_w j5 (by decide) (by decide)) i_r12 (iv_w j4 (by decide) (by decide)) ew_none i_x_this_number i_x_this_found) (cwV 0 hts gX4_advance_X4_findWord rfl rfl rfl (by decide +kernel) ⟨(Nat.le_of_ble_eq_true rfl), (Nat.le_of_ble_eq_true rfl)⟩) (ER_ok ad sw wa) (ER_ok ad sw wa) id hX hS hK hP [0, 1] rfl rfl rfl rfl rfl hl.1 rfl (Nat.le_of_ble_eq_true rfl) dX4_advance_110 ⟨(Nat.le_of_ble_eq_true rfl), (Nat.le_of_ble_eq_true rfl)⟩ (fun r16 hr16 => ?_)
        refine va_put (D := D) (ci := 4) (v := va_re ad r16) (ty := .object "GutterSeats$Word") (C := RX4) (T := TX4) (N := 11) hx hb hts hin_Reader tyX4 tyX4_ok nmX4 hown hK hP hD hS 0 rfl rfl 7 (by decide) (hts (.fieldLink RX4 43 "GutterSeats$Reader" "word" "LGutterSeats$Word;") (by decide +kernel)) (fun _ h9 => h9) rfl (by decide +kernel) re_nar re_fit (Nat.le_of_ble_eq_true rfl) dX4_advance_113 (fun H locs hP hD hS => ?_)
        have hP : va_P D vwCl [(q_this, .inr (4, [.ref q_this_draft, .int x_this_place, .ref q_this_text, .int x_this_length, .int r12, .int r8, .int r1, (va_re ad r16), .int x_this_number, .ref q_this_rule, .int x_this_found])), (q_this_text, .inl (ct 1, 700, .inl f_this_text))] H := hP
        have hD : va_D A [(q_this, .inr (4, [.ref q_this_draft, .int x_this_place, .ref q_this_text, .int x_this_length, .int r12, .int r8, .int r1, (va_re ad r16), .int x_this_number, .ref q_this_rule, .int x_this_found])), (q_this_text, .inl (ct 1, 700, .inl f_this_text))] := hD
        refine lv_goto (tgt := 135) hx hb dX4_advance_116 (by decide) ?_
        exact hE (r12, r1, r8, x_this_number, r16) _ _ _ _ ⟨i_r12, (iv_w j4 (by decide) (by decide)), i_x_this_number, hr16⟩ hP hD hS dX4_advance_135
    ·
      refine lv_aload_n hx hb dX4_advance_68 rfl (lv_at hl 0 rfl) ?_
      refine va_get (D := D) (ci := 4) (v := .int r8) (C := RX4) (T := TX4) (N := 11) hx hb hts hin_Reader hown hK hP 0 rfl rfl 5 (by decide) (hts (.fieldLink RX4 37 "GutterSeats$Reader" "kind" "I") (by decide +kernel)) (fun _ h9 => h9) rfl dX4_advance_69 ?_
      refine lv_iconst (v := 2) hx hb dX4_advance_72 (by decide) ?_
      refine lv_icmp_ne (tgt := 91) hx hb dX4_advance_73 (by decide) (fun c17 => ?_) (fun c17 => ?_)
      ·
        refine lv_aload_n hx hb dX4_advance_91 rfl (lv_at hl 0 rfl) ?_
        refine va_get (D := D) (ci := 4) (v := .int r1) (C := RX4) (T := TX4) (N := 11) hx hb hts hin_Reader hown hK hP 0 rfl rfl 4 (by decide) (hts (.fieldLink RX4 104 "GutterSeats$Reader" "at" "I") (by decide +kernel)) (fun _ h9 => h9) rfl dX4_advance_92 ?_
        refine lv_iconst (v := 1) hx hb dX4_advance_95 (by decide) ?_
        refine lv_iadd hx hb dX4_advance_96 ?_
        refine lv_topi (fun x18 ex18 => ?_)
        have i_x18 : iv x18 1 700 := iv_add ex18 j4 (iv_lit (1 : Int32) (by decide) : iv (1 : Int32) 1 1) (by decide) (by decide) (by decide) (by decide)
        refine va_put (D := D) (ci := 4) (v := .int x18) (ty := .int) (C := RX4) (T := TX4) (N := 11) hx hb hts hin_Reader tyX4 tyX4_ok nmX4 hown hK hP hD hS 0 rfl rfl 4 (by decide) (hts (.fieldLink RX4 104 "GutterSeats$Reader" "at" "I") (by decide +kernel)) (fun _ h9 => h9) rfl (by decide +kernel) rfl rfl (Nat.le_of_ble_eq_true rfl) dX4_advance_97 (fun H locs hP hD hS => ?_)
        have hP : va_P D vwCl [(q_this, .inr (4, [.ref q_this_draft, .int x_this_place, .ref q_this_text, .int x_this_length, .int x18, .int r8, .int r1, (va_re ad none), .int x_this_number, .ref q_this_rule, .int x_this_found])), (q_this_text, .inl (ct 1, 700, .inl f_this_text))] H := hP
        have hD : va_D A [(q_this, .inr (4, [.ref q_this_draft, .int x_this_place, .ref q_this_text, .int x_this_length, .int x18, .int r8, .int r1, (va_re ad none), .int x_this_number, .ref q_this_rule, .int x_this_found])), (q_this_text, .inl (ct 1, 700, .inl f_this_text))] := hD
        refine lv_aload_n hx hb dX4_advance_100 rfl (lv_at hl 0 rfl) ?_
        refine va_get (D := D) (ci := 4) (v := .int r8) (C := RX4) (T := TX4) (N := 11) hx hb hts hin_Reader hown hK hP 0 rfl rfl 5 (by decide) (hts (.fieldLink RX4 37 "GutterSeats$Reader" "kind" "I") (by decide +kernel)) (fun _ h9 => h9) rfl dX4_advance_101 ?_
        refine lv_iconst (v := 1) hx hb dX4_advance_104 (by decide) ?_
        refine lv_icmp_ne (tgt := 119) hx hb dX4_advance_105 (by decide) (fun c19 => ?_) (fun c19 => ?_)
        ·
          refine lv_aload_n hx hb dX4_advance_119 rfl (lv_at hl 0 rfl) ?_
          refine va_get (D := D) (ci := 4) (v := .int r8) (C := RX4) (T := TX4) (N := 11) hx hb hts hin_Reader hown hK hP 0 rfl rfl 5 (by decide) (hts (.fieldLink RX4 37 "GutterSeats$Reader" "kind" "I") (by decide +kernel)) (fun _ h9 => h9) rfl dX4_advance_120 ?_
          refine lv_iconst (v := 2) hx hb dX4_advance_123 (by decide) ?_
          refine lv_icmp_ne (tgt := 135) hx hb dX4_advance_124 (by decide) (fun c20 => ?_) (fun c20 => ?_)
          ·
            exact hE (x18, r1, r8, x_this_number, none) _ _ _ _ ⟨(iv_w i_x18 (by decide) (by decide)), (iv_w j4 (by decide) (by decide)), i_x_this_number, ew_none⟩ hP hD hS dX4_advance_135
          ·
            exact absurd c20 c17
        ·
          exact absurd c19 c10
      ·
        have j21 : iv r8 2 2 := by rw [c17]; exact (iv_lit (2 : Int32) (by decide) : iv (2 : Int32) 2 2)
        refine lv_aload_n hx hb dX4_advance_76 rfl (lv_at hl 0 rfl) ?_
        refine lv_aload_n hx hb dX4_advance_77 rfl (lv_at hl 0 rfl) ?_
        refine va_get (D := D) (ci := 4) (v := .int r1) (C := RX4) (T := TX4) (N := 11) hx hb hts hin_Reader hown hK hP 0 rfl rfl 4 (by decide) (hts (.fieldLink RX4 104 "GutterSeats$Reader" "at" "I") (by decide +kernel)) (fun _ h9 => h9) rfl dX4_advance_78 ?_
        refine lv_aload_n hx hb dX4_advance_81 rfl (lv_at hl 0 rfl) ?_
        refine va_get (D := D) (ci := 4) (v := .int r8) (C := RX4) (T := TX4) (N := 11) hx hb hts hin_Reader hown hK hP 0 rfl rfl 5 (by decide) (hts (.fieldLink RX4 37 "GutterSeats$Reader" "kind" "I") (by decide +kernel)) (fun _ h9 => h9) rfl dX4_advance_82 ?_
        refine kPV (rest := [.ref q_this]) (ci := 4) ⟨hx, hb, hml, hown, hts⟩ (c_Reader_endOfRow2 l D ct ad q_this q_this_text q_this_draft q_this_rule x_this_place x_this_length r1 r8 r1 x_this_number x_this_found f_this_text none r1 r8 (iv_w j5 (by decide) (by decide)) (iv_w j4 (by decide) (by decide)) (iv_w j4 (by decide) (by decide)) ew_none i_x_this_number i_x_this_found (iv_w j4 (by decide) (by decide)) j21) (cwV 2 hts gX4_advance_X4_endOfRow rfl rfl rfl (by decide +kernel) ⟨(Nat.le_of_ble_eq_true rfl), (Nat.le_of_ble_eq_true rfl)⟩) hK hP [0, 1] rfl rfl rfl rfl rfl hl.1 rfl (Nat.le_of_ble_eq_true rfl) dX4_advance_85 ⟨(Nat.le_of_ble_eq_true rfl), (Nat.le_of_ble_eq_true rfl)⟩ (fun r22 hr22 => ?_)
        have i_r22 : iv r22 0 700 := hr22.1
        have g23 : dg f_this_text r1.toNatClampNeg r22.toNatClampNeg := hr22.2
        refine lv_goto (tgt := 97) hx hb dX4_advance_88 (by decide) ?_
        refine va_put (D := D) (ci := 4) (v := .int r22) (ty := .int) (C := RX4) (T := TX4) (N := 11) hx hb hts hin_Reader tyX4 tyX4_ok nmX4 hown hK hP hD hS 0 rfl rfl 4 (by decide) (hts (.fieldLink RX4 104 "GutterSeats$Reader" "at" "I") (by decide +kernel)) (fun _ h9 => h9) rfl (by decide +kernel) rfl rfl (Nat.le_of_ble_eq_true rfl) dX4_advance_97 (fun H locs hP hD hS => ?_)
        have hP : va_P D vwCl [(q_this, .inr (4, [.ref q_this_draft, .int x_this_place, .ref q_this_text, .int x_this_length, .int r22, .int r8, .int r1, (va_re ad none), .int x_this_number, .ref q_this_rule, .int x_this_found])), (q_this_text, .inl (ct 1, 700, .inl f_this_text))] H := hP
        have hD : va_D A [(q_this, .inr (4, [.ref q_this_draft, .int x_this_place, .ref q_this_text, .int x_this_length, .int r22, .int r8, .int r1, (va_re ad none), .int x_this_number, .ref q_this_rule, .int x_this_found])), (q_this_text, .inl (ct 1, 700, .inl f_this_text))] := hD
        refine lv_aload_n hx hb dX4_advance_100 rfl (lv_at hl 0 rfl) ?_
        refine va_get (D := D) (ci := 4) (v := .int r8) (C := RX4) (T := TX4) (N := 11) hx hb hts hin_Reader hown hK hP 0 rfl rfl 5 (by decide) (hts (.fieldLink RX4 37 "GutterSeats$Reader" "kind" "I") (by decide +kernel)) (fun _ h9 => h9) rfl dX4_advance_101 ?_
        refine lv_iconst (v := 1) hx hb dX4_advance_104 (by decide) ?_
        refine lv_icmp_ne (tgt := 119) hx hb dX4_advance_105 (by decide) (fun c24 => ?_) (fun c24 => ?_)
        ·
          refine lv_aload_n hx hb dX4_advance_119 rfl (lv_at hl 0 rfl) ?_
          refine va_get (D := D) (ci := 4) (v := .int r8) (C := RX4) (T := TX4) (N := 11) hx hb hts hin_Reader hown hK hP 0 rfl rfl 5 (by decide) (hts (.fieldLink RX4 37 "GutterSeats$Reader" "kind" "I") (by decide +kernel)) (fun _ h9 => h9) rfl dX4_advance_120 ?_
          refine lv_iconst (v := 2) hx hb dX4_advance_123 (by decide) ?_
          refine lv_icmp_ne (tgt := 135) hx hb dX4_advance_124 (by decide) (fun c25 => ?_) (fun c25 => ?_)
          ·
            exact absurd c17 c25
          ·
            have j26 : iv r8 2 2 := by rw [c25]; exact (iv_lit (2 : Int32) (by decide) : iv (2 : Int32) 2 2)
            refine lv_aload_n hx hb dX4_advance_127 rfl (lv_at hl 0 rfl) ?_
            refine lv_aload_n hx hb dX4_advance_128 rfl (lv_at hl 0 rfl) ?_
            refine kPV (rest := [.ref q_this]) (ci := 4) ⟨hx, hb, hml, hown, hts⟩ (c_Reader_findNumber l D ct ad q_this q_this_text q_this_draft q_this_rule x_this_place x_this_length r22 r8 r1 x_this_number x_this_found f_this_text none (iv_w j5 (by decide) (by decide)) i_r22 (iv_w j4 (by decide) (by decide)) ew_none i_x_this_number i_x_this_found g23) (cwV 0 hts gX4_advance_X4_findNumber rfl rfl rfl (by decide +kernel) ⟨(Nat.le_of_ble_eq_true rfl), (Nat.le_of_ble_eq_true rfl)⟩) hK hP [0, 1] rfl rfl rfl rfl rfl hl.1 rfl (Nat.le_of_ble_eq_true rfl) dX4_advance_129 ⟨(Nat.le_of_ble_eq_true rfl), (Nat.le_of_ble_eq_true rfl)⟩ (fun r27 hr27 => ?_)
            have i_r27 : iv r27 0 10000 := hr27
            refine va_put (D := D) (ci := 4) (v := .int r27) (ty := .int) (C := RX4) (T := TX4) (N := 11) hx hb hts hin_Reader tyX4 tyX4_ok nmX4 hown hK hP hD hS 0 rfl rfl 8 (by decide) (hts (.fieldLink RX4 116 "GutterSeats$Reader" "number" "I") (by decide +kernel)) (fun _ h9 => h9) rfl (by decide +kernel) rfl rfl (Nat.le_of_ble_eq_true rfl) dX4_advance_132 (fun H locs hP hD hS => ?_)
            have hP : va_P D vwCl [(q_this, .inr (4, [.ref q_this_draft, .int x_this_place, .ref q_this_text, .int x_this_length, .int r22, .int r8, .int r1, (va_re ad none), .int r27, .ref q_this_rule, .int x_this_found])), (q_this_text, .inl (ct 1, 700, .inl f_this_text))] H := hP
            have hD : va_D A [(q_this, .inr (4, [.ref q_this_draft, .int x_this_place, .ref q_this_text, .int x_this_length, .int r22, .int r8, .int r1, (va_re ad none), .int r27, .ref q_this_rule, .int x_this_found])), (q_this_text, .inl (ct 1, 700, .inl f_this_text))] := hD
            exact hE (r22, r1, r8, r27, none) _ _ _ _ ⟨i_r22, (iv_w j4 (by decide) (by decide)), (iv_w i_r27 (by decide) (by decide)), ew_none⟩ hP hD hS dX4_advance_135
        ·
          exact absurd c24 c10
  ·
    refine lv_aload_n hx hb dX4_advance_37 rfl (lv_at hl 0 rfl) ?_
    refine lv_iconst (v := 0) hx hb dX4_advance_38 (by decide) ?_
    refine va_put (D := D) (ci := 4) (v := .int (0 : Int32)) (ty := .int) (C := RX4) (T := TX4) (N := 11) hx hb hts hin_Reader tyX4 tyX4_ok nmX4 hown hK hP hD hS 0 rfl rfl 5 (by decide) (hts (.fieldLink RX4 37 "GutterSeats$Reader" "kind" "I") (by decide +kernel)) (fun _ h9 => h9) rfl (by decide +kernel) rfl rfl (Nat.le_of_ble_eq_true rfl) dX4_advance_39 (fun H locs hP hD hS => ?_)
    have hP : va_P D vwCl [(q_this, .inr (4, [.ref q_this_draft, .int x_this_place, .ref q_this_text, .int x_this_length, .int r1, .int (0 : Int32), .int r1, (va_re ad none), .int x_this_number, .ref q_this_rule, .int x_this_found])), (q_this_text, .inl (ct 1, 700, .inl f_this_text))] H := hP
    have hD : va_D A [(q_this, .inr (4, [.ref q_this_draft, .int x_this_place, .ref q_this_text, .int x_this_length, .int r1, .int (0 : Int32), .int r1, (va_re ad none), .int x_this_number, .ref q_this_rule, .int x_this_found])), (q_this_text, .inl (ct 1, 700, .inl f_this_text))] := hD
    exact hE (r1, r1, (0 : Int32), x_this_number, none) _ _ _ _ ⟨i_r1, i_r1, i_x_this_number, ew_none⟩ hP hD hS dX4_advance_42
