abbrev rm_Seating_differenceWith : Room := { frames := 2, cells := 0, slots := 0, locals := 43 }
set_option maxHeartbeats 4000000 in
set_option maxRecDepth 100000 in
theorem c_Seating_differenceWith (l : Launch) (D : va_G) (ct : Nat → ClassId) (q_this q_this_least q_this_state q_this_state_jaw q_this_state_brow q_this_state_stone q_this_state_age q_this_state_family q_this_state_seat : Nat) (x_this_state_gargoyles x_this_state_people x_this_state_year : Int32) (f_this_least f_this_state_jaw f_this_state_brow f_this_state_stone f_this_state_age f_this_state_family f_this_state_seat : Nat → Int32) (p1 p2 p3 : Int32) (i_x_this_state_gargoyles : iv x_this_state_gargoyles 0 8) (i_x_this_state_people : iv x_this_state_people 0 8) (i_x_this_state_year : iv x_this_state_year 0 5000) (a_f_this_state_seat : av f_this_state_seat 8 (-1) 7) (i_p1 : iv p1 0 7) (i_p2 : iv p2 0 7) (i_p3 : iv p3 0 255) : cP l yX6_differenceWith wsX6_differenceWith rm_Seating_differenceWith D ct [(q_this, .inr (6, [.ref q_this_least, .ref q_this_state])), (q_this_least, .inl (ct 0, 2304, .inl f_this_least)), (q_this_state, .inr (8, [.int x_this_state_gargoyles, .int x_this_state_people, .int x_this_state_year, .ref q_this_state_jaw, .ref q_this_state_brow, .ref q_this_state_stone, .ref q_this_state_age, .ref q_this_state_family, .ref q_this_state_seat])), (q_this_state_jaw, .inl (ct 0, 16, .inl f_this_state_jaw)), (q_this_state_brow, .inl (ct 0, 16, .inl f_this_state_brow)), (q_this_state_stone, .inl (ct 0, 8, .inl f_this_state_stone)), (q_this_state_age, .inl (ct 0, 8, .inl f_this_state_age)), (q_this_state_family, .inl (ct 0, 8, .inl f_this_state_family)), (q_this_state_seat, .inl (ct 0, 8, .inl f_this_state_seat))] [.ref q_this, .int p1, .int p2, .int p3] (fun r : Int32 => True) := by
  refine cP_of (cc := cX6_differenceWith) (maxL := 5) (by decide) rfl (Nat.le_of_ble_eq_true rfl) ?_
  intro p e s m args below meth c Q hx hb hml hts hown hK hP hE ls hl
  have hl : lv_has ls 5 [(0, .ref q_this), (1, .int p1), (2, .int p2), (3, .int p3)] := hl
  have hin_Seating : ∀ w ∈ u_ws RX6 TX6 2, w ∈ wsX6_differenceWith := fun w h => List.mem_cons_of_mem _ (List.mem_append_left _ (List.mem_append_right _ (h)))
  refine lv_iload_n hx hb dX6_differenceWith_0 rfl (lv_at hl 3 rfl) ?_
  refine lv_iload_n hx hb dX6_differenceWith_1 rfl (lv_at hl 2 rfl) ?_
  refine lv_ishr hx hb dX6_differenceWith_2 ?_
  refine lv_topi (fun x1 ex1 => ?_)
  have i_x1 : iv x1 0 255 := iv_shr ex1 (iv_w i_p3 (by decide) (by decide) : iv _ 0 255)
  refine lv_iconst (v := 1) hx hb dX6_differenceWith_3 (by decide) ?_
  refine lv_iand hx hb dX6_differenceWith_4 ?_
  refine lv_topi (fun x2 ex2 => ?_)
  have i_x2 : iv x2 0 1 := iv_and ex2 (iv_lit (1 : Int32) (by decide) : iv (1 : Int32) 1 1) (by decide)
  refine lv_iconst (v := 1) hx hb dX6_differenceWith_5 (by decide) ?_
  refine lv_icmp_ne (tgt := 12) hx hb dX6_differenceWith_6 (by decide) (fun c3 => ?_) (fun c3 => ?_)
  ·
    have j4 : iv x2 0 0 := iv_neH c3 i_x2 rfl (by decide)
    refine lv_aload_n hx hb dX6_differenceWith_12 rfl (lv_at hl 0 rfl) ?_
    refine va_get (D := D) (ci := 6) (v := .ref q_this_least) (C := RX6) (T := TX6) (N := 2) hx hb hts hin_Seating hown hK hP 0 rfl rfl 0 (by decide) (hts (.fieldLink RX6 11 "GutterSeats$Seating" "least" "[I") (List.mem_cons_of_mem _ (List.mem_append_left _ (List.mem_append_left _ (List.mem_of_getElem? (i := 1) (by first | rfl | decide +kernel)))))) (fun _ h9 => h9) rfl dX6_differenceWith_13 ?_
    refine lv_iload_n hx hb dX6_differenceWith_16 rfl (lv_at hl 1 rfl) ?_
    refine lv_iconst (v := 1) hx hb dX6_differenceWith_17 (by decide) ?_
    refine lv_iadd hx hb dX6_differenceWith_18 ?_
    refine lv_topi (fun x5 ex5 => ?_)
    have i_x5 : iv x5 1 8 := iv_add ex5 i_p1 (iv_lit (1 : Int32) (by decide) : iv (1 : Int32) 1 1) (by decide) (by decide) (by decide) (by decide)
    refine lv_sipush (v := 256) hx hb dX6_differenceWith_19 (by decide) ?_
    refine lv_imul hx hb dX6_differenceWith_22 ?_
    refine lv_topi (fun x6 ex6 => ?_)
    have i_x6 : iv x6 0 2048 := iv_mulN ex6 (iv_w i_x5 (by decide) (by decide) : iv _ 0 8) (iv_w (iv_lit (256 : Int32) (by decide) : iv (256 : Int32) 256 256) (by decide) (by decide) : iv _ 0 256) (by decide) (by decide)
    refine lv_iload_n hx hb dX6_differenceWith_23 rfl (lv_at hl 3 rfl) ?_
    refine lv_iconst (v := 1) hx hb dX6_differenceWith_24 (by decide) ?_
    refine lv_iload_n hx hb dX6_differenceWith_25 rfl (lv_at hl 2 rfl) ?_
    refine lv_ishl hx hb dX6_differenceWith_26 ?_
    refine lv_topi (fun x7 ex7 => ?_)
    have i_x7 : iv x7 1 128 := iv_shl1 ex7 i_p2 (by decide) (by decide) (by decide) (by decide)
    refine lv_ior hx hb dX6_differenceWith_27 ?_
    refine lv_topi (fun x8 ex8 => ?_)
    have i_x8 : iv x8 0 255 := iv_or 8 ex8 (iv_w i_p3 (by decide) (by decide) : iv _ 0 255) (iv_w i_x7 (by decide) (by decide) : iv _ 0 128) (by decide) (by decide) (by decide)
    refine lv_iadd hx hb dX6_differenceWith_28 ?_
    refine lv_topi (fun x9 ex9 => ?_)
    have i_x9 : iv x9 0 2303 := iv_add ex9 i_x6 i_x8 (by decide) (by decide) (by decide) (by decide)
    have n10 : vp_in x9 2304 := iv_in i_x9 (by decide) (by decide)
    refine va_iald hx hb hK hP 1 0 rfl rfl n10 dX6_differenceWith_29 ?_
    refine lv_topi (fun x11 ex11 => ?_)
    refine lv_istore (lv' := [(4, .int x11), (0, .ref q_this), (1, .int p1), (2, .int p2), (3, .int p3)]) hx hb dX6_differenceWith_30 hl (by decide) rfl (fun ls hl => ?_)
    refine lv_ldc (v := 1000000) hx hb hown (hts (.constant RX6 40 (1000000)) (List.mem_cons_of_mem _ (List.mem_append_left _ (List.mem_append_left _ (List.mem_of_getElem? (i := 0) (by first | rfl | decide +kernel)))))) dX6_differenceWith_32 ?_
    refine lv_iload hx hb dX6_differenceWith_34 (lv_at hl 0 rfl) ?_
    refine lv_aload_n hx hb dX6_differenceWith_36 rfl (lv_at hl 1 rfl) ?_
    refine va_get (D := D) (ci := 6) (v := .ref q_this_state) (C := RX6) (T := TX6) (N := 2) hx hb hts hin_Seating hown hK hP 0 rfl rfl 1 (by decide) (hts (.fieldLink RX6 15 "GutterSeats$Seating" "state" "LGutterSeats$State;") (List.mem_cons_of_mem _ (List.mem_append_left _ (List.mem_append_left _ (List.mem_of_getElem? (i := 2) (by first | rfl | decide +kernel)))))) (fun _ h9 => h9) rfl dX6_differenceWith_37 ?_
    refine lv_iload_n hx hb dX6_differenceWith_40 rfl (lv_at hl 2 rfl) ?_
    refine kPS (rest := [.ref q_this_state, .int x11, .int (1000000 : Int32)]) ⟨hx, hb, hml, hown, hts⟩ (c_State_faceOf l D ct p1 i_p1) (va_cwS 1 hts gX6_differenceWith_X8_faceOf rfl rfl rfl (by first | exact hdX8_faceOf_1.2 | decide +kernel) ⟨(Nat.le_of_ble_eq_true rfl), (Nat.le_of_ble_eq_true rfl)⟩) hK hP [] rfl rfl hl.1 rfl (Nat.le_of_ble_eq_true rfl) dX6_differenceWith_41 ⟨(Nat.le_of_ble_eq_true rfl), (Nat.le_of_ble_eq_true rfl)⟩ (fun r12 hr12 => ?_)
    have i_r12 : iv r12 8 15 := hr12.1
    have m13 : r12 = m_State_faceOf p1 := hr12.2
    refine lv_iload_n hx hb dX6_differenceWith_44 rfl (lv_at hl 3 rfl) ?_
    refine kPV (rest := [.int x11, .int (1000000 : Int32)]) (ci := 8) ⟨hx, hb, hml, hown, hts⟩ (c_State_unlikeness l D ct q_this_state q_this_state_jaw q_this_state_brow q_this_state_stone q_this_state_age q_this_state_family q_this_state_seat x_this_state_gargoyles x_this_state_people x_this_state_year f_this_state_jaw f_this_state_brow f_this_state_stone f_this_state_age f_this_state_family f_this_state_seat r12 p2 i_x_this_state_gargoyles i_x_this_state_people i_x_this_state_year a_f_this_state_seat (iv_w i_r12 (by decide) (by decide)) (iv_w i_p2 (by decide) (by decide))) (cwV 2 hts gX6_differenceWith_X8_unlikeness rfl rfl rfl (by first | exact hdX8_unlikeness_2 | decide +kernel) ⟨(Nat.le_of_ble_eq_true rfl), (Nat.le_of_ble_eq_true rfl)⟩) hK hP [2, 3, 4, 5, 6, 7, 8] rfl rfl rfl rfl rfl hl.1 rfl (Nat.le_of_ble_eq_true rfl) dX6_differenceWith_45 ⟨(Nat.le_of_ble_eq_true rfl), (Nat.le_of_ble_eq_true rfl)⟩ (fun r14 hr14 => ?_)
    have m15 : r14 = m_State_unlikeness f_this_state_jaw f_this_state_brow r12 p2 := hr14
    refine lv_iadd hx hb dX6_differenceWith_48 ?_
    refine lv_topi (fun x16 ex16 => ?_)
    refine va_mmin hx hb (by rw [hml]; exact hl.1.symm) hown (hts (.methodLink RX6 28 Lib.Math.min.name) (List.mem_cons_of_mem _ (List.mem_append_left _ (List.mem_append_left _ (List.mem_of_getElem? (i := 3) (by first | rfl | decide +kernel)))))) (hts (.static Lib.Math.min.name) (List.mem_cons_of_mem _ (List.mem_append_left _ (List.mem_append_left _ (List.mem_of_getElem? (i := 4) (by first | rfl | decide +kernel)))))) (hts (.initialized "java/lang/Math") (List.mem_cons_of_mem _ (List.mem_append_left _ (List.mem_append_left _ (List.mem_of_getElem? (i := 5) (by first | rfl | decide +kernel)))))) (hts (.code Lib.Math.min.name Lib.Math.min.code 2 (some .int)) (List.mem_cons_of_mem _ (List.mem_append_left _ (List.mem_append_left _ (List.mem_of_getElem? (i := 6) (by first | rfl | decide +kernel)))))) (Nat.le_of_ble_eq_true rfl) (Nat.le_of_ble_eq_true rfl) (Nat.le_of_ble_eq_true rfl) (Nat.le_of_ble_eq_true rfl) dX6_differenceWith_49 ?_
    refine lv_topi (fun x17 ex17 => ?_)
    have i_x17 : iv x17 (-2147483648) 1000000 := iv_min ex17 (iv_lit (1000000 : Int32) (by decide) : iv (1000000 : Int32) 1000000 1000000) (iv_any x16) (by decide) (by decide) (by decide)
    exact hE _ _ _ trivial dX6_differenceWith_52
  ·
    have j18 : iv x2 1 1 := by rw [c3]; exact (iv_lit (1 : Int32) (by decide) : iv (1 : Int32) 1 1)
    refine lv_ldc (v := 1000000) hx hb hown (hts (.constant RX6 40 (1000000)) (List.mem_cons_of_mem _ (List.mem_append_left _ (List.mem_append_left _ (List.mem_of_getElem? (i := 0) (by first | rfl | decide +kernel)))))) dX6_differenceWith_9 ?_
    exact hE _ _ _ trivial dX6_differenceWith_11
abbrev rm_Seating_difference : Room := { frames := 0, cells := 0, slots := 0, locals := 0 }
set_option maxHeartbeats 4000000 in
set_option maxRecDepth 100000 in
theorem c_Seating_difference (l : Launch) (D : va_G) (ct : Nat → ClassId) (q_this q_this_least q_this_state q_this_state_jaw q_this_state_brow q_this_state_stone q_this_state_age q_this_state_family q_this_state_seat : Nat) (x_this_state_gargoyles x_this_state_people x_this_state_year : Int32) (f_this_least f_this_state_jaw f_this_state_brow f_this_state_stone f_this_state_age f_this_state_family f_this_state_seat : Nat → Int32) (i_x_this_state_gargoyles : iv x_this_state_gargoyles 0 8) (i_x_this_state_people : iv x_this_state_people 0 8) (i_x_this_state_year : iv x_this_state_year 0 5000) (a_f_this_state_seat : av f_this_state_seat 8 (-1) 7) : cP l yX6_difference wsX6_difference rm_Seating_difference D ct [(q_this, .inr (6, [.ref q_this_least, .ref q_this_state])), (q_this_least, .inl (ct 0, 2304, .inl f_this_least)), (q_this_state, .inr (8, [.int x_this_state_gargoyles, .int x_this_state_people, .int x_this_state_year, .ref q_this_state_jaw, .ref q_this_state_brow, .ref q_this_state_stone, .ref q_this_state_age, .ref q_this_state_family, .ref q_this_state_seat])), (q_this_state_jaw, .inl (ct 0, 16, .inl f_this_state_jaw)), (q_this_state_brow, .inl (ct 0, 16, .inl f_this_state_brow)), (q_this_state_stone, .inl (ct 0, 8, .inl f_this_state_stone)), (q_this_state_age, .inl (ct 0, 8, .inl f_this_state_age)), (q_this_state_family, .inl (ct 0, 8, .inl f_this_state_family)), (q_this_state_seat, .inl (ct 0, 8, .inl f_this_state_seat))] [.ref q_this] (fun r : Int32 => True) := by
  refine cP_of (cc := cX6_difference) (maxL := 1) (by decide) rfl (Nat.le_of_ble_eq_true rfl) ?_
  intro p e s m args below meth c Q hx hb hml hts hown hK hP hE ls hl
  have hl : lv_has ls 1 [(0, .ref q_this)] := hl
  have hin_Seating : ∀ w ∈ u_ws RX6 TX6 2, w ∈ wsX6_difference := fun w h => List.mem_cons_of_mem _ (List.mem_append_right _ (h))
  refine lv_aload_n hx hb dX6_difference_0 rfl (lv_at hl 0 rfl) ?_
  refine va_get (D := D) (ci := 6) (v := .ref q_this_least) (C := RX6) (T := TX6) (N := 2) hx hb hts hin_Seating hown hK hP 0 rfl rfl 0 (by decide) (hts (.fieldLink RX6 11 "GutterSeats$Seating" "least" "[I") (List.mem_cons_of_mem _ (List.mem_append_left _ (List.mem_of_getElem? (i := 0) (by first | rfl | decide +kernel))))) (fun _ h9 => h9) rfl dX6_difference_1 ?_
  refine lv_iconst (v := 0) hx hb dX6_difference_4 (by decide) ?_
  have n1 : vp_in (0 : Int32) 2304 := iv_in (iv_lit (0 : Int32) (by decide) : iv (0 : Int32) 0 0) (by decide) (by decide)
  refine va_iald hx hb hK hP 1 0 rfl rfl n1 dX6_difference_5 ?_
  refine lv_topi (fun x2 ex2 => ?_)
  exact hE _ _ _ trivial dX6_difference_6
abbrev rm_Seating_leastFrom : Room := { frames := 3, cells := 0, slots := 0, locals := 67 }
set_option maxHeartbeats 4000000 in
set_option maxRecDepth 100000 in
theorem c_Seating_leastFrom (l : Launch) (D : va_G) (ct : Nat → ClassId) (q_this q_this_least q_this_state q_this_state_jaw q_this_state_brow q_this_state_stone q_this_state_age q_this_state_family q_this_state_seat : Nat) (x_this_state_gargoyles x_this_state_people x_this_state_year : Int32) (f_this_least f_this_state_jaw f_this_state_brow f_this_state_stone f_this_state_age f_this_state_family f_this_state_seat : Nat → Int32) (p1 p2 : Int32) (i_x_this_state_gargoyles : iv x_this_state_gargoyles 0 8) (i_x_this_state_people : iv x_this_state_people 0 8) (i_x_this_state_year : iv x_this_state_year 0 5000) (a_f_this_state_seat : av f_this_state_seat 8 (-1) 7) (i_p1 : iv p1 0 7) (i_p2 : iv p2 0 255) : cP l yX6_leastFrom wsX6_leastFrom rm_Seating_leastFrom D ct [(q_this, .inr (6, [.ref q_this_least, .ref q_this_state])), (q_this_least, .inl (ct 0, 2304, .inl f_this_least)), (q_this_state, .inr (8, [.int x_this_state_gargoyles, .int x_this_state_people, .int x_this_state_year, .ref q_this_state_jaw, .ref q_this_state_brow, .ref q_this_state_stone, .ref q_this_state_age, .ref q_this_state_family, .ref q_this_state_seat])), (q_this_state_jaw, .inl (ct 0, 16, .inl f_this_state_jaw)), (q_this_state_brow, .inl (ct 0, 16, .inl f_this_state_brow)), (q_this_state_stone, .inl (ct 0, 8, .inl f_this_state_stone)), (q_this_state_age, .inl (ct 0, 8, .inl f_this_state_age)), (q_this_state_family, .inl (ct 0, 8, .inl f_this_state_family)), (q_this_state_seat, .inl (ct 0, 8, .inl f_this_state_seat))] [.ref q_this, .int p1, .int p2] (fun r : Int32 => True) := by
  refine cP_of (cc := cX6_leastFrom) (maxL := 5) (by decide) rfl (Nat.le_of_ble_eq_true rfl) ?_
  intro p e s m args below meth c Q hx hb hml hts hown hK hP hE ls hl
  have hl : lv_has ls 5 [(0, .ref q_this), (1, .int p1), (2, .int p2)] := hl
  have hin_Seating : ∀ w ∈ u_ws RX6 TX6 2, w ∈ wsX6_leastFrom := fun w h => List.mem_cons_of_mem _ (List.mem_append_left _ (List.mem_append_right _ (h)))
  have hin_State : ∀ w ∈ u_ws RX8 TX8 9, w ∈ wsX6_leastFrom := fun w h => List.mem_cons_of_mem _ (List.mem_append_right _ (h))
  have K18 : ∀ (n18 : Nat) (v3c18 v4c18 : Int32) (ls : Array Slot), iv v4c18 0 8 → (8 - v4c18.toInt).toNat < n18 → lv_has ls 5 [(0, .ref q_this), (1, .int p1), (2, .int p2), (3, .int v3c18), (4, .int v4c18)] → W p l e rm_Seating_leastFrom s m args below meth c s.heap [] 0 0 Q (F0 m 18 ls []) := by
    intro n18
    induction n18 with
    | zero => intro v3c18 v4c18 ls i_v4c18 hm18 hl; exact absurd hm18 (Nat.not_lt_zero _)
    | succ n18 ih18 =>
      intro v3c18 v4c18 ls i_v4c18 hm18 hl
      refine lv_iload hx hb dX6_leastFrom_18 (lv_at hl 4 rfl) ?_
      refine lv_aload_n hx hb dX6_leastFrom_20 rfl (lv_at hl 0 rfl) ?_
      refine va_get (D := D) (ci := 6) (v := .ref q_this_state) (C := RX6) (T := TX6) (N := 2) hx hb hts hin_Seating hown hK hP 0 rfl rfl 1 (by decide) (hts (.fieldLink RX6 15 "GutterSeats$Seating" "state" "LGutterSeats$State;") (List.mem_cons_of_mem _ (List.mem_append_left _ (List.mem_append_left _ (List.mem_append_left _ (List.mem_of_getElem? (i := 1) (by first | rfl | decide +kernel))))))) (fun _ h9 => h9) rfl dX6_leastFrom_21 ?_
      refine va_get (D := D) (ci := 8) (v := .int x_this_state_gargoyles) (C := RX8) (T := TX8) (N := 9) hx hb hts hin_State hown hK hP 2 rfl rfl 0 (by decide) (hts (.fieldLink RX6 19 "GutterSeats$State" "gargoyles" "I") (List.mem_cons_of_mem _ (List.mem_append_left _ (List.mem_append_left _ (List.mem_append_left _ (List.mem_of_getElem? (i := 2) (by first | rfl | decide +kernel))))))) (fun _ h9 => h9) rfl dX6_leastFrom_24 ?_
      refine lv_icmp_ge (tgt := 49) hx hb dX6_leastFrom_27 (by decide) (fun c1 => ?_) (fun c1 => ?_)
      ·
        refine lv_iload_n hx hb dX6_leastFrom_49 rfl (lv_at hl 3 rfl) ?_
        exact hE _ _ _ trivial dX6_leastFrom_50
      ·
        have j2 : iv v4c18 0 7 := iv_ltL (iv_nle c1) i_v4c18 i_x_this_state_gargoyles (by decide)
        have j3 : iv x_this_state_gargoyles 1 8 := iv_ltR (iv_nle c1) i_v4c18 i_x_this_state_gargoyles (by decide)
        refine lv_iload_n hx hb dX6_leastFrom_30 rfl (lv_at hl 3 rfl) ?_
        refine lv_aload_n hx hb dX6_leastFrom_31 rfl (lv_at hl 0 rfl) ?_
        refine lv_iload_n hx hb dX6_leastFrom_32 rfl (lv_at hl 1 rfl) ?_
        refine lv_iload hx hb dX6_leastFrom_33 (lv_at hl 4 rfl) ?_
        refine lv_iload_n hx hb dX6_leastFrom_35 rfl (lv_at hl 2 rfl) ?_
        refine kPV (rest := [.int v3c18]) (ci := 6) ⟨hx, hb, hml, hown, hts⟩ (c_Seating_differenceWith l D ct q_this q_this_least q_this_state q_this_state_jaw q_this_state_brow q_this_state_stone q_this_state_age q_this_state_family q_this_state_seat x_this_state_gargoyles x_this_state_people x_this_state_year f_this_least f_this_state_jaw f_this_state_brow f_this_state_stone f_this_state_age f_this_state_family f_this_state_seat p1 v4c18 p2 (iv_w j3 (by decide) (by decide)) i_x_this_state_people i_x_this_state_year a_f_this_state_seat i_p1 j2 i_p2) (cwV 3 hts gX6_leastFrom_X6_differenceWith rfl rfl rfl (by first | exact hdX6_differenceWith_3 | decide +kernel) ⟨(Nat.le_of_ble_eq_true rfl), (Nat.le_of_ble_eq_true rfl)⟩) hK hP [0, 1, 2, 3, 4, 5, 6, 7, 8] rfl rfl rfl rfl rfl hl.1 rfl (Nat.le_of_ble_eq_true rfl) dX6_leastFrom_36 ⟨(Nat.le_of_ble_eq_true rfl), (Nat.le_of_ble_eq_true rfl)⟩ (fun r4 hr4 => ?_)
        refine va_mmin hx hb (by rw [hml]; exact hl.1.symm) hown (hts (.methodLink RX6 28 Lib.Math.min.name) (List.mem_cons_of_mem _ (List.mem_append_left _ (List.mem_append_left _ (List.mem_append_left _ (List.mem_of_getElem? (i := 3) (by first | rfl | decide +kernel))))))) (hts (.static Lib.Math.min.name) (List.mem_cons_of_mem _ (List.mem_append_left _ (List.mem_append_left _ (List.mem_append_left _ (List.mem_of_getElem? (i := 4) (by first | rfl | decide +kernel))))))) (hts (.initialized "java/lang/Math") (List.mem_cons_of_mem _ (List.mem_append_left _ (List.mem_append_left _ (List.mem_append_left _ (List.mem_of_getElem? (i := 5) (by first | rfl | decide +kernel))))))) (hts (.code Lib.Math.min.name Lib.Math.min.code 2 (some .int)) (List.mem_cons_of_mem _ (List.mem_append_left _ (List.mem_append_left _ (List.mem_append_left _ (List.mem_of_getElem? (i := 6) (by first | rfl | decide +kernel))))))) (Nat.le_of_ble_eq_true rfl) (Nat.le_of_ble_eq_true rfl) (Nat.le_of_ble_eq_true rfl) (Nat.le_of_ble_eq_true rfl) dX6_leastFrom_39 ?_
        refine lv_topi (fun x5 ex5 => ?_)
        refine lv_istore_n (lv' := [(3, .int x5), (0, .ref q_this), (1, .int p1), (2, .int p2), (4, .int v4c18)]) hx hb dX6_leastFrom_42 rfl hl (by decide) rfl (fun ls hl => ?_)
        obtain ⟨x6, ex6⟩ : ∃ z : Int32, z = v4c18 + (1 : Int32) := ⟨_, rfl⟩
        refine lv_iinc (v := x6) (lv' := [(4, .int x6), (3, .int x5), (0, .ref q_this), (1, .int p1), (2, .int p2)]) hx hb dX6_leastFrom_43 hl (k := 4) rfl (by rw [ex6]; rfl) (by decide) rfl (fun ls hl => ?_)
        have i_x6 : iv x6 1 8 := iv_add ex6 j2 (iv_lit (1 : Int32) (by decide) : iv (1 : Int32) 1 1) (by decide) (by decide) (by decide) (by decide)
        refine lv_goto (tgt := 18) hx hb dX6_leastFrom_46 (by decide) ?_
        exact ih18 x5 x6 ls (iv_w i_x6 (by decide) (by decide)) (ms_up ex6 j2 (by decide) (by decide) hm18) (lv_sub hl [2, 3, 4, 1, 0] rfl)
  refine lv_aload_n hx hb dX6_leastFrom_0 rfl (lv_at hl 0 rfl) ?_
  refine va_get (D := D) (ci := 6) (v := .ref q_this_least) (C := RX6) (T := TX6) (N := 2) hx hb hts hin_Seating hown hK hP 0 rfl rfl 0 (by decide) (hts (.fieldLink RX6 11 "GutterSeats$Seating" "least" "[I") (List.mem_cons_of_mem _ (List.mem_append_left _ (List.mem_append_left _ (List.mem_append_left _ (List.mem_of_getElem? (i := 0) (by first | rfl | decide +kernel))))))) (fun _ h9 => h9) rfl dX6_leastFrom_1 ?_
  refine lv_iload_n hx hb dX6_leastFrom_4 rfl (lv_at hl 1 rfl) ?_
  refine lv_iconst (v := 1) hx hb dX6_leastFrom_5 (by decide) ?_
  refine lv_iadd hx hb dX6_leastFrom_6 ?_
  refine lv_topi (fun x7 ex7 => ?_)
  have i_x7 : iv x7 1 8 := iv_add ex7 i_p1 (iv_lit (1 : Int32) (by decide) : iv (1 : Int32) 1 1) (by decide) (by decide) (by decide) (by decide)
  refine lv_sipush (v := 256) hx hb dX6_leastFrom_7 (by decide) ?_
  refine lv_imul hx hb dX6_leastFrom_10 ?_
  refine lv_topi (fun x8 ex8 => ?_)
  have i_x8 : iv x8 0 2048 := iv_mulN ex8 (iv_w i_x7 (by decide) (by decide) : iv _ 0 8) (iv_w (iv_lit (256 : Int32) (by decide) : iv (256 : Int32) 256 256) (by decide) (by decide) : iv _ 0 256) (by decide) (by decide)
  refine lv_iload_n hx hb dX6_leastFrom_11 rfl (lv_at hl 2 rfl) ?_
  refine lv_iadd hx hb dX6_leastFrom_12 ?_
  refine lv_topi (fun x9 ex9 => ?_)
  have i_x9 : iv x9 0 2303 := iv_add ex9 i_x8 i_p2 (by decide) (by decide) (by decide) (by decide)
  have n10 : vp_in x9 2304 := iv_in i_x9 (by decide) (by decide)
  refine va_iald hx hb hK hP 1 0 rfl rfl n10 dX6_leastFrom_13 ?_
  refine lv_topi (fun x11 ex11 => ?_)
  refine lv_istore_n (lv' := [(3, .int x11), (0, .ref q_this), (1, .int p1), (2, .int p2)]) hx hb dX6_leastFrom_14 rfl hl (by decide) rfl (fun ls hl => ?_)
  refine lv_iconst (v := 0) hx hb dX6_leastFrom_15 (by decide) ?_
  refine lv_istore (lv' := [(4, .int (0 : Int32)), (3, .int x11), (0, .ref q_this), (1, .int p1), (2, .int p2)]) hx hb dX6_leastFrom_16 hl (by decide) rfl (fun ls hl => ?_)
  exact K18 _ x11 (0 : Int32) ls (iv_lit (0 : Int32) (by decide) : iv (0 : Int32) 0 8) (Nat.lt_succ_self _) (lv_sub hl [2, 3, 4, 1, 0] rfl)
abbrev rm_Seating_firstPlace : Room := { frames := 3, cells := 0, slots := 0, locals := 67 }
set_option maxHeartbeats 4000000 in
set_option maxRecDepth 100000 in
theorem c_Seating_firstPlace (l : Launch) (D : va_G) (ct : Nat → ClassId) (q_this q_this_least q_this_state q_this_state_jaw q_this_state_brow q_this_state_stone q_this_state_age q_this_state_family q_this_state_seat : Nat) (x_this_state_gargoyles x_this_state_people x_this_state_year : Int32) (f_this_least f_this_state_jaw f_this_state_brow f_this_state_stone f_this_state_age f_this_state_family f_this_state_seat : Nat → Int32) (p1 p2 : Int32) (i_x_this_state_gargoyles : iv x_this_state_gargoyles 0 8) (i_x_this_state_people : iv x_this_state_people 0 8) (i_x_this_state_year : iv x_this_state_year 0 5000) (a_f_this_state_seat : av f_this_state_seat 8 (-1) 7) (i_p1 : iv p1 0 7) (i_p2 : iv p2 0 255) : cP l yX6_firstPlace wsX6_firstPlace rm_Seating_firstPlace D ct [(q_this, .inr (6, [.ref q_this_least, .ref q_this_state])), (q_this_least, .inl (ct 0, 2304, .inl f_this_least)), (q_this_state, .inr (8, [.int x_this_state_gargoyles, .int x_this_state_people, .int x_this_state_year, .ref q_this_state_jaw, .ref q_this_state_brow, .ref q_this_state_stone, .ref q_this_state_age, .ref q_this_state_family, .ref q_this_state_seat])), (q_this_state_jaw, .inl (ct 0, 16, .inl f_this_state_jaw)), (q_this_state_brow, .inl (ct 0, 16, .inl f_this_state_brow)), (q_this_state_stone, .inl (ct 0, 8, .inl f_this_state_stone)), (q_this_state_age, .inl (ct 0, 8, .inl f_this_state_age)), (q_this_state_family, .inl (ct 0, 8, .inl f_this_state_family)), (q_this_state_seat, .inl (ct 0, 8, .inl f_this_state_seat))] [.ref q_this, .int p1, .int p2] (fun r : Int32 => iv r (-1) 7) := by
  refine cP_of (cc := cX6_firstPlace) (maxL := 4) (by decide) rfl (Nat.le_of_ble_eq_true rfl) ?_
  intro p e s m args below meth c Q hx hb hml hts hown hK hP hE ls hl
  have hl : lv_has ls 4 [(0, .ref q_this), (1, .int p1), (2, .int p2)] := hl
  have hin_Seating : ∀ w ∈ u_ws RX6 TX6 2, w ∈ wsX6_firstPlace := fun w h => List.mem_cons_of_mem _ (List.mem_append_left _ (List.mem_append_right _ (h)))
  have hin_State : ∀ w ∈ u_ws RX8 TX8 9, w ∈ wsX6_firstPlace := fun w h => List.mem_cons_of_mem _ (List.mem_append_right _ (h))
  have K2 : ∀ (n2 : Nat) (v3c2 : Int32) (ls : Array Slot), iv v3c2 0 8 → (8 - v3c2.toInt).toNat < n2 → lv_has ls 4 [(0, .ref q_this), (1, .int p1), (2, .int p2), (3, .int v3c2)] → W p l e rm_Seating_firstPlace s m args below meth c s.heap [] 0 0 Q (F0 m 2 ls []) := by
    intro n2
    induction n2 with
    | zero => intro v3c2 ls i_v3c2 hm2 hl; exact absurd hm2 (Nat.not_lt_zero _)
    | succ n2 ih2 =>
      intro v3c2 ls i_v3c2 hm2 hl
      refine lv_iload_n hx hb dX6_firstPlace_2 rfl (lv_at hl 3 rfl) ?_
      refine lv_aload_n hx hb dX6_firstPlace_3 rfl (lv_at hl 0 rfl) ?_
      refine va_get (D := D) (ci := 6) (v := .ref q_this_state) (C := RX6) (T := TX6) (N := 2) hx hb hts hin_Seating hown hK hP 0 rfl rfl 1 (by decide) (hts (.fieldLink RX6 15 "GutterSeats$Seating" "state" "LGutterSeats$State;") (List.mem_cons_of_mem _ (List.mem_append_left _ (List.mem_append_left _ (List.mem_append_left _ (List.mem_of_getElem? (i := 0) (by first | rfl | decide +kernel))))))) (fun _ h9 => h9) rfl dX6_firstPlace_4 ?_
      refine va_get (D := D) (ci := 8) (v := .int x_this_state_gargoyles) (C := RX8) (T := TX8) (N := 9) hx hb hts hin_State hown hK hP 2 rfl rfl 0 (by decide) (hts (.fieldLink RX6 19 "GutterSeats$State" "gargoyles" "I") (List.mem_cons_of_mem _ (List.mem_append_left _ (List.mem_append_left _ (List.mem_append_left _ (List.mem_of_getElem? (i := 1) (by first | rfl | decide +kernel))))))) (fun _ h9 => h9) rfl dX6_firstPlace_7 ?_
      refine lv_icmp_ge (tgt := 43) hx hb dX6_firstPlace_10 (by decide) (fun c1 => ?_) (fun c1 => ?_)
      ·
        refine lv_iconst (v := -1) hx hb dX6_firstPlace_43 (by decide) ?_
        exact hE _ _ _ (iv_lit (-1 : Int32) (by decide) : iv (-1 : Int32) (-1) 7) dX6_firstPlace_44
      ·
        have j2 : iv v3c2 0 7 := iv_ltL (iv_nle c1) i_v3c2 i_x_this_state_gargoyles (by decide)
        have j3 : iv x_this_state_gargoyles 1 8 := iv_ltR (iv_nle c1) i_v3c2 i_x_this_state_gargoyles (by decide)
        refine lv_aload_n hx hb dX6_firstPlace_13 rfl (lv_at hl 0 rfl) ?_
        refine lv_iload_n hx hb dX6_firstPlace_14 rfl (lv_at hl 1 rfl) ?_
        refine lv_iload_n hx hb dX6_firstPlace_15 rfl (lv_at hl 3 rfl) ?_
        refine lv_iload_n hx hb dX6_firstPlace_16 rfl (lv_at hl 2 rfl) ?_
        refine kPV (rest := []) (ci := 6) ⟨hx, hb, hml, hown, hts⟩ (c_Seating_differenceWith l D ct q_this q_this_least q_this_state q_this_state_jaw q_this_state_brow q_this_state_stone q_this_state_age q_this_state_family q_this_state_seat x_this_state_gargoyles x_this_state_people x_this_state_year f_this_least f_this_state_jaw f_this_state_brow f_this_state_stone f_this_state_age f_this_state_family f_this_state_seat p1 v3c2 p2 (iv_w j3 (by decide) (by decide)) i_x_this_state_people i_x_this_state_year a_f_this_state_seat i_p1 j2 i_p2) (cwV 3 hts gX6_firstPlace_X6_differenceWith rfl rfl rfl (by first | exact hdX6_differenceWith_3 | decide +kernel) ⟨(Nat.le_of_ble_eq_true rfl), (Nat.le_of_ble_eq_true rfl)⟩) hK hP [0, 1, 2, 3, 4, 5, 6, 7, 8] rfl rfl rfl rfl rfl hl.1 rfl (Nat.le_of_ble_eq_true rfl) dX6_firstPlace_17 ⟨(Nat.le_of_ble_eq_true rfl), (Nat.le_of_ble_eq_true rfl)⟩ (fun r4 hr4 => ?_)
        refine lv_aload_n hx hb dX6_firstPlace_20 rfl (lv_at hl 0 rfl) ?_
        refine va_get (D := D) (ci := 6) (v := .ref q_this_least) (C := RX6) (T := TX6) (N := 2) hx hb hts hin_Seating hown hK hP 0 rfl rfl 0 (by decide) (hts (.fieldLink RX6 11 "GutterSeats$Seating" "least" "[I") (List.mem_cons_of_mem _ (List.mem_append_left _ (List.mem_append_left _ (List.mem_append_left _ (List.mem_of_getElem? (i := 2) (by first | rfl | decide +kernel))))))) (fun _ h9 => h9) rfl dX6_firstPlace_21 ?_
        refine lv_iload_n hx hb dX6_firstPlace_24 rfl (lv_at hl 1 rfl) ?_
        refine lv_sipush (v := 256) hx hb dX6_firstPlace_25 (by decide) ?_
        refine lv_imul hx hb dX6_firstPlace_28 ?_
        refine lv_topi (fun x5 ex5 => ?_)
        have i_x5 : iv x5 0 1792 := iv_mulN ex5 (iv_w i_p1 (by decide) (by decide) : iv _ 0 7) (iv_w (iv_lit (256 : Int32) (by decide) : iv (256 : Int32) 256 256) (by decide) (by decide) : iv _ 0 256) (by decide) (by decide)
        refine lv_iload_n hx hb dX6_firstPlace_29 rfl (lv_at hl 2 rfl) ?_
        refine lv_iadd hx hb dX6_firstPlace_30 ?_
        refine lv_topi (fun x6 ex6 => ?_)
        have i_x6 : iv x6 0 2047 := iv_add ex6 i_x5 i_p2 (by decide) (by decide) (by decide) (by decide)
        have n7 : vp_in x6 2304 := iv_in i_x6 (by decide) (by decide)
        refine va_iald hx hb hK hP 1 0 rfl rfl n7 dX6_firstPlace_31 ?_
        refine lv_topi (fun x8 ex8 => ?_)
        refine lv_icmp_ne (tgt := 37) hx hb dX6_firstPlace_32 (by decide) (fun c9 => ?_) (fun c9 => ?_)
        ·
          obtain ⟨x10, ex10⟩ : ∃ z : Int32, z = v3c2 + (1 : Int32) := ⟨_, rfl⟩
          refine lv_iinc (v := x10) (lv' := [(3, .int x10), (0, .ref q_this), (1, .int p1), (2, .int p2)]) hx hb dX6_firstPlace_37 hl (k := 3) rfl (by rw [ex10]; rfl) (by decide) rfl (fun ls hl => ?_)
          have i_x10 : iv x10 1 8 := iv_add ex10 j2 (iv_lit (1 : Int32) (by decide) : iv (1 : Int32) 1 1) (by decide) (by decide) (by decide) (by decide)
          refine lv_goto (tgt := 2) hx hb dX6_firstPlace_40 (by decide) ?_
          exact ih2 x10 ls (iv_w i_x10 (by decide) (by decide)) (ms_up ex10 j2 (by decide) (by decide) hm2) (lv_sub hl [1, 2, 3, 0] rfl)
        ·
          refine lv_iload_n hx hb dX6_firstPlace_35 rfl (lv_at hl 3 rfl) ?_
          exact hE _ _ _ (iv_w j2 (by decide) (by decide)) dX6_firstPlace_36
  refine lv_iconst (v := 0) hx hb dX6_firstPlace_0 (by decide) ?_
  refine lv_istore_n (lv' := [(3, .int (0 : Int32)), (0, .ref q_this), (1, .int p1), (2, .int p2)]) hx hb dX6_firstPlace_1 rfl hl (by decide) rfl (fun ls hl => ?_)
  exact K2 _ (0 : Int32) ls (iv_lit (0 : Int32) (by decide) : iv (0 : Int32) 0 8) (Nat.lt_succ_self _) (lv_sub hl [1, 2, 3, 0] rfl)
abbrev rm_Seating_placeFor : Room := { frames := 4, cells := 0, slots := 0, locals := 90 }
set_option maxHeartbeats 4000000 in
set_option maxRecDepth 100000 in
theorem c_Seating_placeFor (l : Launch) (D : va_G) (ct : Nat → ClassId) (q_this q_this_least q_this_state q_this_state_jaw q_this_state_brow q_this_state_stone q_this_state_age q_this_state_family q_this_state_seat : Nat) (x_this_state_gargoyles x_this_state_people x_this_state_year : Int32) (f_this_least f_this_state_jaw f_this_state_brow f_this_state_stone f_this_state_age f_this_state_family f_this_state_seat : Nat → Int32) (p1 : Int32) (i_x_this_state_gargoyles : iv x_this_state_gargoyles 0 8) (i_x_this_state_people : iv x_this_state_people 0 8) (i_x_this_state_year : iv x_this_state_year 0 5000) (a_f_this_state_seat : av f_this_state_seat 8 (-1) 7) (i_p1 : iv p1 0 7) : cP l yX6_placeFor wsX6_placeFor rm_Seating_placeFor D ct [(q_this, .inr (6, [.ref q_this_least, .ref q_this_state])), (q_this_least, .inl (ct 0, 2304, .inl f_this_least)), (q_this_state, .inr (8, [.int x_this_state_gargoyles, .int x_this_state_people, .int x_this_state_year, .ref q_this_state_jaw, .ref q_this_state_brow, .ref q_this_state_stone, .ref q_this_state_age, .ref q_this_state_family, .ref q_this_state_seat])), (q_this_state_jaw, .inl (ct 0, 16, .inl f_this_state_jaw)), (q_this_state_brow, .inl (ct 0, 16, .inl f_this_state_brow)), (q_this_state_stone, .inl (ct 0, 8, .inl f_this_state_stone)), (q_this_state_age, .inl (ct 0, 8, .inl f_this_state_age)), (q_this_state_family, .inl (ct 0, 8, .inl f_this_state_family)), (q_this_state_seat, .inl (ct 0, 8, .inl f_this_state_seat))] [.ref q_this, .int p1] (fun r : Int32 => iv r (-1) 7) := by
  refine cP_of (cc := cX6_placeFor) (maxL := 5) (by decide) rfl (Nat.le_of_ble_eq_true rfl) ?_
  intro p e s m args below meth c Q hx hb hml hts hown hK hP hE ls hl
  have hl : lv_has ls 5 [(0, .ref q_this), (1, .int p1)] := hl
  have K7 : ∀ (n7 : Nat) (v2c7 v3c7 v4c7 : Int32) (ls : Array Slot), iv v2c7 0 255 → iv v3c7 (-1) 7 → iv v4c7 0 8 → (8 - v4c7.toInt).toNat < n7 → lv_has ls 5 [(0, .ref q_this), (1, .int p1), (2, .int v2c7), (3, .int v3c7), (4, .int v4c7)] → W p l e rm_Seating_placeFor s m args below meth c s.heap [] 0 0 Q (F0 m 7 ls []) := by
    intro n7
    induction n7 with
    | zero => intro v2c7 v3c7 v4c7 ls i_v2c7 i_v3c7 i_v4c7 hm7 hl; exact absurd hm7 (Nat.not_lt_zero _)
    | succ n7 ih7 =>
      intro v2c7 v3c7 v4c7 ls i_v2c7 i_v3c7 i_v4c7 hm7 hl
      have K32 : ∀ (v2c32 v3c32 v4c32 : Int32) (ls : Array Slot), iv v2c32 0 255 → iv v3c32 (-1) 7 → iv v4c32 0 7 → (8 - v4c32.toInt).toNat < n7 + 1 → lv_has ls 5 [(0, .ref q_this), (1, .int p1), (2, .int v2c32), (3, .int v3c32), (4, .int v4c32)] → W p l e rm_Seating_placeFor s m args below meth c s.heap [] 0 0 Q (F0 m 32 ls []) := by
        intro v2c32 v3c32 v4c32 ls i_v2c32 i_v3c32 i_v4c32 hm7 hl
        obtain ⟨x1, ex1⟩ : ∃ z : Int32, z = v4c32 + (1 : Int32) := ⟨_, rfl⟩
        refine lv_iinc (v := x1) (lv' := [(4, .int x1), (0, .ref q_this), (1, .int p1), (2, .int v2c32), (3, .int v3c32)]) hx hb dX6_placeFor_32 hl (k := 4) rfl (by rw [ex1]; rfl) (by decide) rfl (fun ls hl => ?_)
        have i_x1 : iv x1 1 8 := iv_add ex1 i_v4c32 (iv_lit (1 : Int32) (by decide) : iv (1 : Int32) 1 1) (by decide) (by decide) (by decide) (by decide)
        refine lv_goto (tgt := 7) hx hb dX6_placeFor_35 (by decide) ?_
        exact ih7 v2c32 v3c32 x1 ls i_v2c32 i_v3c32 (iv_w i_x1 (by decide) (by decide)) (ms_up ex1 i_v4c32 (by decide) (by decide) hm7) (lv_sub hl [1, 2, 3, 4, 0] rfl)
      refine lv_iload hx hb dX6_placeFor_7 (lv_at hl 4 rfl) ?_
      refine lv_iload_n hx hb dX6_placeFor_9 rfl (lv_at hl 1 rfl) ?_
      refine lv_icmp_gt (tgt := 38) hx hb dX6_placeFor_10 (by decide) (fun c2 => ?_) (fun c2 => ?_)
      ·
        have j3 : iv v4c7 1 8 := iv_ltR c2 i_p1 i_v4c7 (by decide)
        refine lv_iload_n hx hb dX6_placeFor_38 rfl (lv_at hl 3 rfl) ?_
        exact hE _ _ _ i_v3c7 dX6_placeFor_39
      ·
        have j4 : iv v4c7 0 7 := iv_leL (iv_nlt c2) i_v4c7 i_p1 (by decide)
        refine lv_aload_n hx hb dX6_placeFor_13 rfl (lv_at hl 0 rfl) ?_
        refine lv_iload hx hb dX6_placeFor_14 (lv_at hl 4 rfl) ?_
        refine lv_iload_n hx hb dX6_placeFor_16 rfl (lv_at hl 2 rfl) ?_
        refine kPV (rest := []) (ci := 6) ⟨hx, hb, hml, hown, hts⟩ (c_Seating_firstPlace l D ct q_this q_this_least q_this_state q_this_state_jaw q_this_state_brow q_this_state_stone q_this_state_age q_this_state_family q_this_state_seat x_this_state_gargoyles x_this_state_people x_this_state_year f_this_least f_this_state_jaw f_this_state_brow f_this_state_stone f_this_state_age f_this_state_family f_this_state_seat v4c7 v2c7 i_x_this_state_gargoyles i_x_this_state_people i_x_this_state_year a_f_this_state_seat j4 i_v2c7) (cwV 2 hts gX6_placeFor_X6_firstPlace rfl rfl rfl (by first | exact hdX6_firstPlace_2 | decide +kernel) ⟨(Nat.le_of_ble_eq_true rfl), (Nat.le_of_ble_eq_true rfl)⟩) hK hP [0, 1, 2, 3, 4, 5, 6, 7, 8] rfl rfl rfl rfl rfl hl.1 rfl (Nat.le_of_ble_eq_true rfl) dX6_placeFor_17 ⟨(Nat.le_of_ble_eq_true rfl), (Nat.le_of_ble_eq_true rfl)⟩ (fun r5 hr5 => ?_)
        have i_r5 : iv r5 (-1) 7 := hr5
        refine lv_istore_n (lv' := [(3, .int r5), (0, .ref q_this), (1, .int p1), (2, .int v2c7), (4, .int v4c7)]) hx hb dX6_placeFor_20 rfl hl (by decide) rfl (fun ls hl => ?_)
        refine lv_iload_n hx hb dX6_placeFor_21 rfl (lv_at hl 0 rfl) ?_
        refine lv_iconst (v := -1) hx hb dX6_placeFor_22 (by decide) ?_
        refine lv_icmp_eq (tgt := 32) hx hb dX6_placeFor_23 (by decide) (fun c6 => ?_) (fun c6 => ?_)
        ·
          have j7 : iv r5 (-1) (-1) := by rw [c6]; exact (iv_lit (-1 : Int32) (by decide) : iv (-1 : Int32) (-1) (-1))
          exact K32 v2c7 r5 v4c7 ls i_v2c7 (iv_w j7 (by decide) (by decide)) j4 hm7 (lv_sub hl [1, 2, 3, 0, 4] rfl)
        ·
          have j8 : iv r5 0 7 := iv_neL c6 i_r5 rfl (by decide)
          refine lv_iload_n hx hb dX6_placeFor_26 rfl (lv_at hl 3 rfl) ?_
          refine lv_iconst (v := 1) hx hb dX6_placeFor_27 (by decide) ?_
          refine lv_iload_n hx hb dX6_placeFor_28 rfl (lv_at hl 0 rfl) ?_
          refine lv_ishl hx hb dX6_placeFor_29 ?_
          refine lv_topi (fun x9 ex9 => ?_)
          have i_x9 : iv x9 1 128 := iv_shl1 ex9 j8 (by decide) (by decide) (by decide) (by decide)
          refine lv_ior hx hb dX6_placeFor_30 ?_
          refine lv_topi (fun x10 ex10 => ?_)
          have i_x10 : iv x10 0 255 := iv_or 8 ex10 (iv_w i_v2c7 (by decide) (by decide) : iv _ 0 255) (iv_w i_x9 (by decide) (by decide) : iv _ 0 128) (by decide) (by decide) (by decide)
          refine lv_istore_n (lv' := [(2, .int x10), (3, .int r5), (0, .ref q_this), (1, .int p1), (4, .int v4c7)]) hx hb dX6_placeFor_31 rfl hl (by decide) rfl (fun ls hl => ?_)
          exact K32 x10 r5 v4c7 ls i_x10 (iv_w j8 (by decide) (by decide)) j4 hm7 (lv_sub hl [2, 3, 0, 1, 4] rfl)
  refine lv_iconst (v := 0) hx hb dX6_placeFor_0 (by decide) ?_
  refine lv_istore_n (lv' := [(2, .int (0 : Int32)), (0, .ref q_this), (1, .int p1)]) hx hb dX6_placeFor_1 rfl hl (by decide) rfl (fun ls hl => ?_)
  refine lv_iconst (v := -1) hx hb dX6_placeFor_2 (by decide) ?_
  refine lv_istore_n (lv' := [(3, .int (-1 : Int32)), (2, .int (0 : Int32)), (0, .ref q_this), (1, .int p1)]) hx hb dX6_placeFor_3 rfl hl (by decide) rfl (fun ls hl => ?_)
  refine lv_iconst (v := 0) hx hb dX6_placeFor_4 (by decide) ?_
  refine lv_istore (lv' := [(4, .int (0 : Int32)), (3, .int (-1 : Int32)), (2, .int (0 : Int32)), (0, .ref q_this), (1, .int p1)]) hx hb dX6_placeFor_5 hl (by decide) rfl (fun ls hl => ?_)
  exact K7 _ (0 : Int32) (-1 : Int32) (0 : Int32) ls (iv_lit (0 : Int32) (by decide) : iv (0 : Int32) 0 255) (iv_lit (-1 : Int32) (by decide) : iv (-1 : Int32) (-1) 7) (iv_lit (0 : Int32) (by decide) : iv (0 : Int32) 0 8) (Nat.lt_succ_self _) (lv_sub hl [3, 4, 2, 1, 0] rfl)
abbrev rm_Seating_find : Room := { frames := 4, cells := 0, slots := 0, locals := 91 }
set_option maxHeartbeats 4000000 in
set_option maxRecDepth 100000 in
theorem c_Seating_find (l : Launch) (D : va_G) (ct : Nat → ClassId) (q_this q_this_least q_this_state q_this_state_jaw q_this_state_brow q_this_state_stone q_this_state_age q_this_state_family q_this_state_seat : Nat) (sz : Nat) (x_this_state_gargoyles x_this_state_people x_this_state_year : Int32) (f_this_least f_this_state_jaw f_this_state_brow f_this_state_stone f_this_state_age f_this_state_family f_this_state_seat : Nat → Int32) (i_x_this_state_gargoyles : iv x_this_state_gargoyles 0 8) (i_x_this_state_people : iv x_this_state_people 0 8) (i_x_this_state_year : iv x_this_state_year 0 5000) (a_f_this_state_seat : av f_this_state_seat 8 (-1) 7) : cV l yX6_find wsX6_find rm_Seating_find D ct [(q_this, .inr (6, [.ref q_this_least, .ref q_this_state])), (q_this_least, .inl (ct 0, 2304, .inl f_this_least)), (q_this_state, .inr (8, [.int x_this_state_gargoyles, .int x_this_state_people, .int x_this_state_year, .ref q_this_state_jaw, .ref q_this_state_brow, .ref q_this_state_stone, .ref q_this_state_age, .ref q_this_state_family, .ref q_this_state_seat])), (q_this_state_jaw, .inl (ct 0, 16, .inl f_this_state_jaw)), (q_this_state_brow, .inl (ct 0, 16, .inl f_this_state_brow)), (q_this_state_stone, .inl (ct 0, 8, .inl f_this_state_stone)), (q_this_state_age, .inl (ct 0, 8, .inl f_this_state_age)), (q_this_state_family, .inl (ct 0, 8, .inl f_this_state_family)), (q_this_state_seat, .inl (ct 0, 8, .inl f_this_state_seat))] sz [.ref q_this] (fun u : (Nat → Int32) => True) (fun u : (Nat → Int32) => [(q_this, .inr (6, [.ref q_this_least, .ref q_this_state])), (q_this_least, .inl (ct 0, 2304, .inl u)), (q_this_state, .inr (8, [.int x_this_state_gargoyles, .int x_this_state_people, .int x_this_state_year, .ref q_this_state_jaw, .ref q_this_state_brow, .ref q_this_state_stone, .ref q_this_state_age, .ref q_this_state_family, .ref q_this_state_seat])), (q_this_state_jaw, .inl (ct 0, 16, .inl f_this_state_jaw)), (q_this_state_brow, .inl (ct 0, 16, .inl f_this_state_brow)), (q_this_state_stone, .inl (ct 0, 8, .inl f_this_state_stone)), (q_this_state_age, .inl (ct 0, 8, .inl f_this_state_age)), (q_this_state_family, .inl (ct 0, 8, .inl f_this_state_family)), (q_this_state_seat, .inl (ct 0, 8, .inl f_this_state_seat))]) := by
  refine cV_of (cc := cX6_find) (maxL := 5) (by decide) rfl (Nat.le_of_ble_eq_true rfl) ?_
  intro p e s m args below meth c Q A hx hb hml hts hown hK hP hD hA hAe hsz hname hE ls hl
  have hS : va_S A s.heap s.heap [] := va_S.rf
  have hP : va_P D vwCl [(q_this, .inr (6, [.ref q_this_least, .ref q_this_state])), (q_this_least, .inl (ct 0, 2304, .inl f_this_least)), (q_this_state, .inr (8, [.int x_this_state_gargoyles, .int x_this_state_people, .int x_this_state_year, .ref q_this_state_jaw, .ref q_this_state_brow, .ref q_this_state_stone, .ref q_this_state_age, .ref q_this_state_family, .ref q_this_state_seat])), (q_this_state_jaw, .inl (ct 0, 16, .inl f_this_state_jaw)), (q_this_state_brow, .inl (ct 0, 16, .inl f_this_state_brow)), (q_this_state_stone, .inl (ct 0, 8, .inl f_this_state_stone)), (q_this_state_age, .inl (ct 0, 8, .inl f_this_state_age)), (q_this_state_family, .inl (ct 0, 8, .inl f_this_state_family)), (q_this_state_seat, .inl (ct 0, 8, .inl f_this_state_seat))] s.heap := hP
  have hD : va_D A [(q_this, .inr (6, [.ref q_this_least, .ref q_this_state])), (q_this_least, .inl (ct 0, 2304, .inl f_this_least)), (q_this_state, .inr (8, [.int x_this_state_gargoyles, .int x_this_state_people, .int x_this_state_year, .ref q_this_state_jaw, .ref q_this_state_brow, .ref q_this_state_stone, .ref q_this_state_age, .ref q_this_state_family, .ref q_this_state_seat])), (q_this_state_jaw, .inl (ct 0, 16, .inl f_this_state_jaw)), (q_this_state_brow, .inl (ct 0, 16, .inl f_this_state_brow)), (q_this_state_stone, .inl (ct 0, 8, .inl f_this_state_stone)), (q_this_state_age, .inl (ct 0, 8, .inl f_this_state_age)), (q_this_state_family, .inl (ct 0, 8, .inl f_this_state_family)), (q_this_state_seat, .inl (ct 0, 8, .inl f_this_state_seat))] := hD
  have hl : lv_has ls 5 [(0, .ref q_this)] := hl
  have hin_Seating : ∀ w ∈ u_ws RX6 TX6 2, w ∈ wsX6_find := fun w h => List.mem_cons_of_mem _ (List.mem_append_left _ (List.mem_append_right _ (h)))
  have hin_State : ∀ w ∈ u_ws RX8 TX8 9, w ∈ wsX6_find := fun w h => List.mem_cons_of_mem _ (List.mem_append_right _ (h))
  have K83 : ∀ (n83 : Nat) (v2c83 v3c83 : Int32) (f_this_leastc83 : Nat → Int32) (H : Heap) (locs : List Loc) (ls : Array Slot), iv v2c83 1 256 → iv v3c83 (-1) 7 → (v3c83.toInt - (-1) + 1000).toNat < n83 → va_P D vwCl [(q_this, .inr (6, [.ref q_this_least, .ref q_this_state])), (q_this_least, .inl (ct 0, 2304, .inl f_this_leastc83)), (q_this_state, .inr (8, [.int x_this_state_gargoyles, .int x_this_state_people, .int x_this_state_year, .ref q_this_state_jaw, .ref q_this_state_brow, .ref q_this_state_stone, .ref q_this_state_age, .ref q_this_state_family, .ref q_this_state_seat])), (q_this_state_jaw, .inl (ct 0, 16, .inl f_this_state_jaw)), (q_this_state_brow, .inl (ct 0, 16, .inl f_this_state_brow)), (q_this_state_stone, .inl (ct 0, 8, .inl f_this_state_stone)), (q_this_state_age, .inl (ct 0, 8, .inl f_this_state_age)), (q_this_state_family, .inl (ct 0, 8, .inl f_this_state_family)), (q_this_state_seat, .inl (ct 0, 8, .inl f_this_state_seat))] H → va_D A [(q_this, .inr (6, [.ref q_this_least, .ref q_this_state])), (q_this_least, .inl (ct 0, 2304, .inl f_this_leastc83)), (q_this_state, .inr (8, [.int x_this_state_gargoyles, .int x_this_state_people, .int x_this_state_year, .ref q_this_state_jaw, .ref q_this_state_brow, .ref q_this_state_stone, .ref q_this_state_age, .ref q_this_state_family, .ref q_this_state_seat])), (q_this_state_jaw, .inl (ct 0, 16, .inl f_this_state_jaw)), (q_this_state_brow, .inl (ct 0, 16, .inl f_this_state_brow)), (q_this_state_stone, .inl (ct 0, 8, .inl f_this_state_stone)), (q_this_state_age, .inl (ct 0, 8, .inl f_this_state_age)), (q_this_state_family, .inl (ct 0, 8, .inl f_this_state_family)), (q_this_state_seat, .inl (ct 0, 8, .inl f_this_state_seat))] → va_S A s.heap H locs → lv_has ls 5 [(0, .ref q_this), (2, .int v2c83), (3, .int v3c83)] → W p l e rm_Seating_find s m args below meth c H locs 0 0 Q (F0 m 83 ls []) := by
    intro n83
    induction n83 with
    | zero => intro v2c83 v3c83 f_this_leastc83 H locs ls i_v2c83 i_v3c83 hm83 hP hD hS hl; exact absurd hm83 (Nat.not_lt_zero _)
    | succ n83 ih83 =>
      intro v2c83 v3c83 f_this_leastc83 H locs ls i_v2c83 i_v3c83 hm83 hP hD hS hl
      have K90 : ∀ (n90 : Nat) (v2c90 v3c90 v4c90 : Int32) (f_this_leastc90 : Nat → Int32) (H : Heap) (locs : List Loc) (ls : Array Slot), iv v2c90 1 256 → iv v3c90 0 7 → iv v4c90 0 256 → (256 - v4c90.toInt).toNat < n90 → (v3c90.toInt - (-1) + 1000).toNat < n83 + 1 → va_P D vwCl [(q_this, .inr (6, [.ref q_this_least, .ref q_this_state])), (q_this_least, .inl (ct 0, 2304, .inl f_this_leastc90)), (q_this_state, .inr (8, [.int x_this_state_gargoyles, .int x_this_state_people, .int x_this_state_year, .ref q_this_state_jaw, .ref q_this_state_brow, .ref q_this_state_stone, .ref q_this_state_age, .ref q_this_state_family, .ref q_this_state_seat])), (q_this_state_jaw, .inl (ct 0, 16, .inl f_this_state_jaw)), (q_this_state_brow, .inl (ct 0, 16, .inl f_this_state_brow)), (q_this_state_stone, .inl (ct 0, 8, .inl f_this_state_stone)), (q_this_state_age, .inl (ct 0, 8, .inl f_this_state_age)), (q_this_state_family, .inl (ct 0, 8, .inl f_this_state_family)), (q_this_state_seat, .inl (ct 0, 8, .inl f_this_state_seat))] H → va_D A [(q_this, .inr (6, [.ref q_this_least, .ref q_this_state])), (q_this_least, .inl (ct 0, 2304, .inl f_this_leastc90)), (q_this_state, .inr (8, [.int x_this_state_gargoyles, .int x_this_state_people, .int x_this_state_year, .ref q_this_state_jaw, .ref q_this_state_brow, .ref q_this_state_stone, .ref q_this_state_age, .ref q_this_state_family, .ref q_this_state_seat])), (q_this_state_jaw, .inl (ct 0, 16, .inl f_this_state_jaw)), (q_this_state_brow, .inl (ct 0, 16, .inl f_this_state_brow)), (q_this_state_stone, .inl (ct 0, 8, .inl f_this_state_stone)), (q_this_state_age, .inl (ct 0, 8, .inl f_this_state_age)), (q_this_state_family, .inl (ct 0, 8, .inl f_this_state_family)), (q_this_state_seat, .inl (ct 0, 8, .inl f_this_state_seat))] → va_S A s.heap H locs → lv_has ls 5 [(0, .ref q_this), (2, .int v2c90), (3, .int v3c90), (4, .int v4c90)] → W p l e rm_Seating_find s m args below meth c H locs 0 0 Q (F0 m 90 ls []) := by
        intro n90
        induction n90 with
        | zero => intro v2c90 v3c90 v4c90 f_this_leastc90 H locs ls i_v2c90 i_v3c90 i_v4c90 hm90 hm83 hP hD hS hl; exact absurd hm90 (Nat.not_lt_zero _)
        | succ n90 ih90 =>
          intro v2c90 v3c90 v4c90 f_this_leastc90 H locs ls i_v2c90 i_v3c90 i_v4c90 hm90 hm83 hP hD hS hl
          refine lv_iload hx hb dX6_find_90 (lv_at hl 3 rfl) ?_
          refine lv_iload_n hx hb dX6_find_92 rfl (lv_at hl 1 rfl) ?_
          refine lv_icmp_ge (tgt := 122) hx hb dX6_find_93 (by decide) (fun c1 => ?_) (fun c1 => ?_)
          ·
            have j2 : iv v4c90 1 256 := iv_leR c1 i_v2c90 i_v4c90 (by decide)
            obtain ⟨x3, ex3⟩ : ∃ z : Int32, z = v3c90 + (-1 : Int32) := ⟨_, rfl⟩
            refine lv_iinc (v := x3) (lv' := [(3, .int x3), (0, .ref q_this), (2, .int v2c90), (4, .int v4c90)]) hx hb dX6_find_122 hl (k := 2) rfl (by rw [ex3]; rfl) (by decide) rfl (fun ls hl => ?_)
            have i_x3 : iv x3 (-1) 6 := iv_add ex3 i_v3c90 (iv_lit (-1 : Int32) (by decide) : iv (-1 : Int32) (-1) (-1)) (by decide) (by decide) (by decide) (by decide)
            refine lv_goto (tgt := 83) hx hb dX6_find_125 (by decide) ?_
            exact ih83 v2c90 x3 f_this_leastc90 _ _ ls i_v2c90 (iv_w i_x3 (by decide) (by decide)) (ms_dn ex3 i_v3c90 (by decide) (by decide) (by decide) (by decide) hm83) hP hD hS (lv_sub hl [1, 2, 0] rfl)
          ·
            have j4 : iv v4c90 0 255 := iv_ltL (iv_nle c1) i_v4c90 i_v2c90 (by decide)
            refine lv_aload_n hx hb dX6_find_96 rfl (lv_at hl 0 rfl) ?_
            refine va_get (D := D) (ci := 6) (v := .ref q_this_least) (C := RX6) (T := TX6) (N := 2) hx hb hts hin_Seating hown hK hP 0 rfl rfl 0 (by decide) (hts (.fieldLink RX6 11 "GutterSeats$Seating" "least" "[I") (List.mem_cons_of_mem _ (List.mem_append_left _ (List.mem_append_left _ (List.mem_append_left _ (List.mem_of_getElem? (i := 7) (by first | rfl | decide +kernel))))))) (fun _ h9 => h9) rfl dX6_find_97 ?_
            refine lv_iload_n hx hb dX6_find_100 rfl (lv_at hl 2 rfl) ?_
            refine lv_sipush (v := 256) hx hb dX6_find_101 (by decide) ?_
            refine lv_imul hx hb dX6_find_104 ?_
            refine lv_topi (fun x5 ex5 => ?_)
            have i_x5 : iv x5 0 1792 := iv_mulN ex5 (iv_w i_v3c90 (by decide) (by decide) : iv _ 0 7) (iv_w (iv_lit (256 : Int32) (by decide) : iv (256 : Int32) 256 256) (by decide) (by decide) : iv _ 0 256) (by decide) (by decide)
            refine lv_iload hx hb dX6_find_105 (lv_at hl 3 rfl) ?_
            refine lv_iadd hx hb dX6_find_107 ?_
            refine lv_topi (fun x6 ex6 => ?_)
            have i_x6 : iv x6 0 2047 := iv_add ex6 i_x5 j4 (by decide) (by decide) (by decide) (by decide)
            refine lv_aload_n hx hb dX6_find_108 rfl (lv_at hl 0 rfl) ?_
            refine lv_iload_n hx hb dX6_find_109 rfl (lv_at hl 2 rfl) ?_
            refine lv_iload hx hb dX6_find_110 (lv_at hl 3 rfl) ?_
            refine kPV (rest := [.int x6, .ref q_this_least]) (ci := 6) ⟨hx, hb, hml, hown, hts⟩ (c_Seating_leastFrom l D ct q_this q_this_least q_this_state q_this_state_jaw q_this_state_brow q_this_state_stone q_this_state_age q_this_state_family q_this_state_seat x_this_state_gargoyles x_this_state_people x_this_state_year f_this_leastc90 f_this_state_jaw f_this_state_brow f_this_state_stone f_this_state_age f_this_state_family f_this_state_seat v3c90 v4c90 i_x_this_state_gargoyles i_x_this_state_people i_x_this_state_year a_f_this_state_seat i_v3c90 j4) (cwV 2 hts gX6_find_X6_leastFrom rfl rfl rfl (by first | exact hdX6_leastFrom_2 | decide +kernel) ⟨(Nat.le_of_ble_eq_true rfl), (Nat.le_of_ble_eq_true rfl)⟩) hK hP [0, 1, 2, 3, 4, 5, 6, 7, 8] rfl rfl rfl rfl rfl hl.1 rfl (Nat.le_of_ble_eq_true rfl) dX6_find_112 ⟨(Nat.le_of_ble_eq_true rfl), (Nat.le_of_ble_eq_true rfl)⟩ (fun r7 hr7 => ?_)
            have n8 : vp_in x6 2304 := iv_in i_x6 (by decide) (by decide)
            refine va_iast hx hb hK hP hD hS 1 0 rfl rfl n8 dX6_find_115 (fun H locs hP hD hS => ?_)
            obtain ⟨f9, ef9⟩ : ∃ z : Nat → Int32, z = upd f_this_leastc90 x6.toNatClampNeg r7 := ⟨_, rfl⟩
            rw [← ef9] at hP hD
            have hP : va_P D vwCl [(q_this, .inr (6, [.ref q_this_least, .ref q_this_state])), (q_this_least, .inl (ct 0, 2304, .inl f9)), (q_this_state, .inr (8, [.int x_this_state_gargoyles, .int x_this_state_people, .int x_this_state_year, .ref q_this_state_jaw, .ref q_this_state_brow, .ref q_this_state_stone, .ref q_this_state_age, .ref q_this_state_family, .ref q_this_state_seat])), (q_this_state_jaw, .inl (ct 0, 16, .inl f_this_state_jaw)), (q_this_state_brow, .inl (ct 0, 16, .inl f_this_state_brow)), (q_this_state_stone, .inl (ct 0, 8, .inl f_this_state_stone)), (q_this_state_age, .inl (ct 0, 8, .inl f_this_state_age)), (q_this_state_family, .inl (ct 0, 8, .inl f_this_state_family)), (q_this_state_seat, .inl (ct 0, 8, .inl f_this_state_seat))] H := hP
            have hD : va_D A [(q_this, .inr (6, [.ref q_this_least, .ref q_this_state])), (q_this_least, .inl (ct 0, 2304, .inl f9)), (q_this_state, .inr (8, [.int x_this_state_gargoyles, .int x_this_state_people, .int x_this_state_year, .ref q_this_state_jaw, .ref q_this_state_brow, .ref q_this_state_stone, .ref q_this_state_age, .ref q_this_state_family, .ref q_this_state_seat])), (q_this_state_jaw, .inl (ct 0, 16, .inl f_this_state_jaw)), (q_this_state_brow, .inl (ct 0, 16, .inl f_this_state_brow)), (q_this_state_stone, .inl (ct 0, 8, .inl f_this_state_stone)), (q_this_state_age, .inl (ct 0, 8, .inl f_this_state_age)), (q_this_state_family, .inl (ct 0, 8, .inl f_this_state_family)), (q_this_state_seat, .inl (ct 0, 8, .inl f_this_state_seat))] := hD
            obtain ⟨x10, ex10⟩ : ∃ z : Int32, z = v4c90 + (1 : Int32) := ⟨_, rfl⟩
            refine lv_iinc (v := x10) (lv' := [(4, .int x10), (0, .ref q_this), (2, .int v2c90), (3, .int v3c90)]) hx hb dX6_find_116 hl (k := 3) rfl (by rw [ex10]; rfl) (by decide) rfl (fun ls hl => ?_)
            have i_x10 : iv x10 1 256 := iv_add ex10 j4 (iv_lit (1 : Int32) (by decide) : iv (1 : Int32) 1 1) (by decide) (by decide) (by decide) (by decide)
            refine lv_goto (tgt := 90) hx hb dX6_find_119 (by decide) ?_
            exact ih90 v2c90 v3c90 x10 f9 _ _ ls i_v2c90 i_v3c90 (iv_w i_x10 (by decide) (by decide)) (ms_up ex10 j4 (by decide) (by decide) hm90) hm83 hP hD hS (lv_sub hl [1, 2, 3, 0] rfl)
      refine lv_iload_n hx hb dX6_find_83 rfl (lv_at hl 2 rfl) ?_
      refine lv_if_lt (tgt := 128) hx hb dX6_find_84 (by decide) (fun c11 => ?_) (fun c11 => ?_)
      ·
        have j12 : iv v3c83 (-1) (-1) := iv_ltL c11 i_v3c83 (iv_lit (0 : Int32) (by decide) : iv (0 : Int32) 0 0) (by decide)
        exact hE f_this_leastc83 _ _ _ _ trivial hP hD hS dX6_find_128
      ·
        have j13 : iv v3c83 0 7 := iv_leR (iv_nlt c11) (iv_lit (0 : Int32) (by decide) : iv (0 : Int32) 0 0) i_v3c83 (by decide)
        refine lv_iconst (v := 0) hx hb dX6_find_87 (by decide) ?_
        refine lv_istore (lv' := [(4, .int (0 : Int32)), (0, .ref q_this), (2, .int v2c83), (3, .int v3c83)]) hx hb dX6_find_88 hl (by decide) rfl (fun ls hl => ?_)
        exact K90 _ v2c83 v3c83 (0 : Int32) f_this_leastc83 _ _ ls i_v2c83 j13 (iv_lit (0 : Int32) (by decide) : iv (0 : Int32) 0 256) (Nat.lt_succ_self _) hm83 hP hD hS (lv_sub hl [1, 2, 3, 0] rfl)
  have K30 : ∀ (n30 : Nat) (v1c30 v2c30 v3c30 : Int32) (f_this_leastc30 : Nat → Int32) (H : Heap) (locs : List Loc) (ls : Array Slot), iv v1c30 0 8 → iv v2c30 1 256 → iv v3c30 0 256 → (256 - v3c30.toInt).toNat < n30 → va_P D vwCl [(q_this, .inr (6, [.ref q_this_least, .ref q_this_state])), (q_this_least, .inl (ct 0, 2304, .inl f_this_leastc30)), (q_this_state, .inr (8, [.int x_this_state_gargoyles, .int x_this_state_people, .int x_this_state_year, .ref q_this_state_jaw, .ref q_this_state_brow, .ref q_this_state_stone, .ref q_this_state_age, .ref q_this_state_family, .ref q_this_state_seat])), (q_this_state_jaw, .inl (ct 0, 16, .inl f_this_state_jaw)), (q_this_state_brow, .inl (ct 0, 16, .inl f_this_state_brow)), (q_this_state_stone, .inl (ct 0, 8, .inl f_this_state_stone)), (q_this_state_age, .inl (ct 0, 8, .inl f_this_state_age)), (q_this_state_family, .inl (ct 0, 8, .inl f_this_state_family)), (q_this_state_seat, .inl (ct 0, 8, .inl f_this_state_seat))] H → va_D A [(q_this, .inr (6, [.ref q_this_least, .ref q_this_state])), (q_this_least, .inl (ct 0, 2304, .inl f_this_leastc30)), (q_this_state, .inr (8, [.int x_this_state_gargoyles, .int x_this_state_people, .int x_this_state_year, .ref q_this_state_jaw, .ref q_this_state_brow, .ref q_this_state_stone, .ref q_this_state_age, .ref q_this_state_family, .ref q_this_state_seat])), (q_this_state_jaw, .inl (ct 0, 16, .inl f_this_state_jaw)), (q_this_state_brow, .inl (ct 0, 16, .inl f_this_state_brow)), (q_this_state_stone, .inl (ct 0, 8, .inl f_this_state_stone)), (q_this_state_age, .inl (ct 0, 8, .inl f_this_state_age)), (q_this_state_family, .inl (ct 0, 8, .inl f_this_state_family)), (q_this_state_seat, .inl (ct 0, 8, .inl f_this_state_seat))] → va_S A s.heap H locs → lv_has ls 5 [(0, .ref q_this), (1, .int v1c30), (2, .int v2c30), (3, .int v3c30)] → W p l e rm_Seating_find s m args below meth c H locs 0 0 Q (F0 m 30 ls []) := by
    intro n30
    induction n30 with
    | zero => intro v1c30 v2c30 v3c30 f_this_leastc30 H locs ls i_v1c30 i_v2c30 i_v3c30 hm30 hP hD hS hl; exact absurd hm30 (Nat.not_lt_zero _)
    | succ n30 ih30 =>
      intro v1c30 v2c30 v3c30 f_this_leastc30 H locs ls i_v1c30 i_v2c30 i_v3c30 hm30 hP hD hS hl
      have K66 : ∀ (v1c66 v2c66 v3c66 s0c66 s1c66 : Int32) (f_this_leastc66 : Nat → Int32) (H : Heap) (locs : List Loc) (ls : Array Slot), iv v1c66 0 8 → iv v2c66 1 256 → iv v3c66 0 255 → iv s0c66 0 1000000 → iv s1c66 0 2303 → (256 - v3c66.toInt).toNat < n30 + 1 → va_P D vwCl [(q_this, .inr (6, [.ref q_this_least, .ref q_this_state])), (q_this_least, .inl (ct 0, 2304, .inl f_this_leastc66)), (q_this_state, .inr (8, [.int x_this_state_gargoyles, .int x_this_state_people, .int x_this_state_year, .ref q_this_state_jaw, .ref q_this_state_brow, .ref q_this_state_stone, .ref q_this_state_age, .ref q_this_state_family, .ref q_this_state_seat])), (q_this_state_jaw, .inl (ct 0, 16, .inl f_this_state_jaw)), (q_this_state_brow, .inl (ct 0, 16, .inl f_this_state_brow)), (q_this_state_stone, .inl (ct 0, 8, .inl f_this_state_stone)), (q_this_state_age, .inl (ct 0, 8, .inl f_this_state_age)), (q_this_state_family, .inl (ct 0, 8, .inl f_this_state_family)), (q_this_state_seat, .inl (ct 0, 8, .inl f_this_state_seat))] H → va_D A [(q_this, .inr (6, [.ref q_this_least, .ref q_this_state])), (q_this_least, .inl (ct 0, 2304, .inl f_this_leastc66)), (q_this_state, .inr (8, [.int x_this_state_gargoyles, .int x_this_state_people, .int x_this_state_year, .ref q_this_state_jaw, .ref q_this_state_brow, .ref q_this_state_stone, .ref q_this_state_age, .ref q_this_state_family, .ref q_this_state_seat])), (q_this_state_jaw, .inl (ct 0, 16, .inl f_this_state_jaw)), (q_this_state_brow, .inl (ct 0, 16, .inl f_this_state_brow)), (q_this_state_stone, .inl (ct 0, 8, .inl f_this_state_stone)), (q_this_state_age, .inl (ct 0, 8, .inl f_this_state_age)), (q_this_state_family, .inl (ct 0, 8, .inl f_this_state_family)), (q_this_state_seat, .inl (ct 0, 8, .inl f_this_state_seat))] → va_S A s.heap H locs → lv_has ls 5 [(0, .ref q_this), (1, .int v1c66), (2, .int v2c66), (3, .int v3c66)] → W p l e rm_Seating_find s m args below meth c H locs 0 0 Q (F0 m 66 ls [.int s0c66, .int s1c66, .ref q_this_least]) := by
        intro v1c66 v2c66 v3c66 s0c66 s1c66 f_this_leastc66 H locs ls i_v1c66 i_v2c66 i_v3c66 i_s0c66 i_s1c66 hm30 hP hD hS hl
        have n14 : vp_in s1c66 2304 := iv_in i_s1c66 (by decide) (by decide)
        refine va_iast hx hb hK hP hD hS 1 0 rfl rfl n14 dX6_find_66 (fun H locs hP hD hS => ?_)
        obtain ⟨f15, ef15⟩ : ∃ z : Nat → Int32, z = upd f_this_leastc66 s1c66.toNatClampNeg s0c66 := ⟨_, rfl⟩
        rw [← ef15] at hP hD
        have hP : va_P D vwCl [(q_this, .inr (6, [.ref q_this_least, .ref q_this_state])), (q_this_least, .inl (ct 0, 2304, .inl f15)), (q_this_state, .inr (8, [.int x_this_state_gargoyles, .int x_this_state_people, .int x_this_state_year, .ref q_this_state_jaw, .ref q_this_state_brow, .ref q_this_state_stone, .ref q_this_state_age, .ref q_this_state_family, .ref q_this_state_seat])), (q_this_state_jaw, .inl (ct 0, 16, .inl f_this_state_jaw)), (q_this_state_brow, .inl (ct 0, 16, .inl f_this_state_brow)), (q_this_state_stone, .inl (ct 0, 8, .inl f_this_state_stone)), (q_this_state_age, .inl (ct 0, 8, .inl f_this_state_age)), (q_this_state_family, .inl (ct 0, 8, .inl f_this_state_family)), (q_this_state_seat, .inl (ct 0, 8, .inl f_this_state_seat))] H := hP
        have hD : va_D A [(q_this, .inr (6, [.ref q_this_least, .ref q_this_state])), (q_this_least, .inl (ct 0, 2304, .inl f15)), (q_this_state, .inr (8, [.int x_this_state_gargoyles, .int x_this_state_people, .int x_this_state_year, .ref q_this_state_jaw, .ref q_this_state_brow, .ref q_this_state_stone, .ref q_this_state_age, .ref q_this_state_family, .ref q_this_state_seat])), (q_this_state_jaw, .inl (ct 0, 16, .inl f_this_state_jaw)), (q_this_state_brow, .inl (ct 0, 16, .inl f_this_state_brow)), (q_this_state_stone, .inl (ct 0, 8, .inl f_this_state_stone)), (q_this_state_age, .inl (ct 0, 8, .inl f_this_state_age)), (q_this_state_family, .inl (ct 0, 8, .inl f_this_state_family)), (q_this_state_seat, .inl (ct 0, 8, .inl f_this_state_seat))] := hD
        obtain ⟨x16, ex16⟩ : ∃ z : Int32, z = v3c66 + (1 : Int32) := ⟨_, rfl⟩
        refine lv_iinc (v := x16) (lv' := [(3, .int x16), (0, .ref q_this), (1, .int v1c66), (2, .int v2c66)]) hx hb dX6_find_67 hl (k := 3) rfl (by rw [ex16]; rfl) (by decide) rfl (fun ls hl => ?_)
        have i_x16 : iv x16 1 256 := iv_add ex16 i_v3c66 (iv_lit (1 : Int32) (by decide) : iv (1 : Int32) 1 1) (by decide) (by decide) (by decide) (by decide)
        refine lv_goto (tgt := 30) hx hb dX6_find_70 (by decide) ?_
        exact ih30 v1c66 v2c66 x16 f15 _ _ ls i_v1c66 i_v2c66 (iv_w i_x16 (by decide) (by decide)) (ms_up ex16 i_v3c66 (by decide) (by decide) hm30) hP hD hS (lv_sub hl [1, 2, 3, 0] rfl)
      refine lv_iload_n hx hb dX6_find_30 rfl (lv_at hl 3 rfl) ?_
      refine lv_iload_n hx hb dX6_find_31 rfl (lv_at hl 2 rfl) ?_
      refine lv_icmp_ge (tgt := 73) hx hb dX6_find_32 (by decide) (fun c17 => ?_) (fun c17 => ?_)
      ·
        have j18 : iv v3c30 1 256 := iv_leR c17 i_v2c30 i_v3c30 (by decide)
        refine lv_aload_n hx hb dX6_find_73 rfl (lv_at hl 0 rfl) ?_
        refine va_get (D := D) (ci := 6) (v := .ref q_this_state) (C := RX6) (T := TX6) (N := 2) hx hb hts hin_Seating hown hK hP 0 rfl rfl 1 (by decide) (hts (.fieldLink RX6 15 "GutterSeats$Seating" "state" "LGutterSeats$State;") (List.mem_cons_of_mem _ (List.mem_append_left _ (List.mem_append_left _ (List.mem_append_left _ (List.mem_of_getElem? (i := 0) (by first | rfl | decide +kernel))))))) (fun _ h9 => h9) rfl dX6_find_74 ?_
        refine va_get (D := D) (ci := 8) (v := .int x_this_state_people) (C := RX8) (T := TX8) (N := 9) hx hb hts hin_State hown hK hP 2 rfl rfl 1 (by decide) (hts (.fieldLink RX6 25 "GutterSeats$State" "people" "I") (List.mem_cons_of_mem _ (List.mem_append_left _ (List.mem_append_left _ (List.mem_append_left _ (List.mem_of_getElem? (i := 2) (by first | rfl | decide +kernel))))))) (fun _ h9 => h9) rfl dX6_find_77 ?_
        refine lv_iconst (v := 1) hx hb dX6_find_80 (by decide) ?_
        refine lv_isub hx hb dX6_find_81 ?_
        refine lv_topi (fun x19 ex19 => ?_)
        have i_x19 : iv x19 (-1) 7 := iv_sub ex19 i_x_this_state_people (iv_lit (1 : Int32) (by decide) : iv (1 : Int32) 1 1) (by decide) (by decide) (by decide) (by decide)
        refine lv_istore_n (lv' := [(3, .int x19), (0, .ref q_this), (1, .int v1c30), (2, .int v2c30)]) hx hb dX6_find_82 rfl hl (by decide) rfl (fun ls hl => ?_)
        exact K83 _ v2c30 x19 f_this_leastc30 _ _ ls i_v2c30 i_x19 (Nat.lt_succ_self _) hP hD hS (lv_sub hl [1, 3, 0] rfl)
      ·
        have j20 : iv v3c30 0 255 := iv_ltL (iv_nle c17) i_v3c30 i_v2c30 (by decide)
        refine lv_aload_n hx hb dX6_find_35 rfl (lv_at hl 0 rfl) ?_
        refine va_get (D := D) (ci := 6) (v := .ref q_this_least) (C := RX6) (T := TX6) (N := 2) hx hb hts hin_Seating hown hK hP 0 rfl rfl 0 (by decide) (hts (.fieldLink RX6 11 "GutterSeats$Seating" "least" "[I") (List.mem_cons_of_mem _ (List.mem_append_left _ (List.mem_append_left _ (List.mem_append_left _ (List.mem_of_getElem? (i := 7) (by first | rfl | decide +kernel))))))) (fun _ h9 => h9) rfl dX6_find_36 ?_
        refine lv_aload_n hx hb dX6_find_39 rfl (lv_at hl 0 rfl) ?_
        refine va_get (D := D) (ci := 6) (v := .ref q_this_state) (C := RX6) (T := TX6) (N := 2) hx hb hts hin_Seating hown hK hP 0 rfl rfl 1 (by decide) (hts (.fieldLink RX6 15 "GutterSeats$Seating" "state" "LGutterSeats$State;") (List.mem_cons_of_mem _ (List.mem_append_left _ (List.mem_append_left _ (List.mem_append_left _ (List.mem_of_getElem? (i := 0) (by first | rfl | decide +kernel))))))) (fun _ h9 => h9) rfl dX6_find_40 ?_
        refine va_get (D := D) (ci := 8) (v := .int x_this_state_people) (C := RX8) (T := TX8) (N := 9) hx hb hts hin_State hown hK hP 2 rfl rfl 1 (by decide) (hts (.fieldLink RX6 25 "GutterSeats$State" "people" "I") (List.mem_cons_of_mem _ (List.mem_append_left _ (List.mem_append_left _ (List.mem_append_left _ (List.mem_of_getElem? (i := 2) (by first | rfl | decide +kernel))))))) (fun _ h9 => h9) rfl dX6_find_43 ?_
        refine lv_sipush (v := 256) hx hb dX6_find_46 (by decide) ?_
        refine lv_imul hx hb dX6_find_49 ?_
        refine lv_topi (fun x21 ex21 => ?_)
        have i_x21 : iv x21 0 2048 := iv_mulN ex21 (iv_w i_x_this_state_people (by decide) (by decide) : iv _ 0 8) (iv_w (iv_lit (256 : Int32) (by decide) : iv (256 : Int32) 256 256) (by decide) (by decide) : iv _ 0 256) (by decide) (by decide)
        refine lv_iload_n hx hb dX6_find_50 rfl (lv_at hl 3 rfl) ?_
        refine lv_iadd hx hb dX6_find_51 ?_
        refine lv_topi (fun x22 ex22 => ?_)
        have i_x22 : iv x22 0 2303 := iv_add ex22 i_x21 j20 (by decide) (by decide) (by decide) (by decide)
        refine lv_iload_n hx hb dX6_find_52 rfl (lv_at hl 3 rfl) ?_
        refine kPS (rest := [.int x22, .ref q_this_least]) ⟨hx, hb, hml, hown, hts⟩ (c_J6_bitCount l D ct v3c30) (va_cwS 1 hts gX6_find_J6_bitCount_0f7a4 rfl rfl rfl (by first | exact hdJ6_bitCount_0f7a4_1.2 | decide +kernel) ⟨(Nat.le_of_ble_eq_true rfl), (Nat.le_of_ble_eq_true rfl)⟩) hK hP [] rfl rfl hl.1 rfl (Nat.le_of_ble_eq_true rfl) dX6_find_53 ⟨(Nat.le_of_ble_eq_true rfl), (Nat.le_of_ble_eq_true rfl)⟩ (fun r23 hr23 => ?_)
        have m24 : r23 = m_J6_bitCount v3c30 := hr23
        refine lv_iload_n hx hb dX6_find_56 rfl (lv_at hl 1 rfl) ?_
        refine lv_icmp_ne (tgt := 64) hx hb dX6_find_57 (by decide) (fun c25 => ?_) (fun c25 => ?_)
        ·
          refine lv_ldc (v := 1000000) hx hb hown (hts (.constant RX6 40 (1000000)) (List.mem_cons_of_mem _ (List.mem_append_left _ (List.mem_append_left _ (List.mem_append_left _ (List.mem_of_getElem? (i := 8) (by first | rfl | decide +kernel))))))) dX6_find_64 ?_
          exact K66 v1c30 v2c30 v3c30 (1000000 : Int32) x22 f_this_leastc30 _ _ ls i_v1c30 i_v2c30 j20 (iv_lit (1000000 : Int32) (by decide) : iv (1000000 : Int32) 0 1000000) i_x22 hm30 hP hD hS (lv_sub hl [0, 1, 2, 3] rfl)
        ·
          have j26 : iv r23 0 8 := by rw [c25]; exact i_v1c30
          refine lv_iconst (v := 0) hx hb dX6_find_60 (by decide) ?_
          refine lv_goto (tgt := 66) hx hb dX6_find_61 (by decide) ?_
          exact K66 v1c30 v2c30 v3c30 (0 : Int32) x22 f_this_leastc30 _ _ ls i_v1c30 i_v2c30 j20 (iv_lit (0 : Int32) (by decide) : iv (0 : Int32) 0 1000000) i_x22 hm30 hP hD hS (lv_sub hl [0, 1, 2, 3] rfl)
  refine lv_aload_n hx hb dX6_find_0 rfl (lv_at hl 0 rfl) ?_
  refine va_get (D := D) (ci := 6) (v := .ref q_this_state) (C := RX6) (T := TX6) (N := 2) hx hb hts hin_Seating hown hK hP 0 rfl rfl 1 (by decide) (hts (.fieldLink RX6 15 "GutterSeats$Seating" "state" "LGutterSeats$State;") (List.mem_cons_of_mem _ (List.mem_append_left _ (List.mem_append_left _ (List.mem_append_left _ (List.mem_of_getElem? (i := 0) (by first | rfl | decide +kernel))))))) (fun _ h9 => h9) rfl dX6_find_1 ?_
  refine va_get (D := D) (ci := 8) (v := .int x_this_state_gargoyles) (C := RX8) (T := TX8) (N := 9) hx hb hts hin_State hown hK hP 2 rfl rfl 0 (by decide) (hts (.fieldLink RX6 19 "GutterSeats$State" "gargoyles" "I") (List.mem_cons_of_mem _ (List.mem_append_left _ (List.mem_append_left _ (List.mem_append_left _ (List.mem_of_getElem? (i := 1) (by first | rfl | decide +kernel))))))) (fun _ h9 => h9) rfl dX6_find_4 ?_
  refine lv_aload_n hx hb dX6_find_7 rfl (lv_at hl 0 rfl) ?_
  refine va_get (D := D) (ci := 6) (v := .ref q_this_state) (C := RX6) (T := TX6) (N := 2) hx hb hts hin_Seating hown hK hP 0 rfl rfl 1 (by decide) (hts (.fieldLink RX6 15 "GutterSeats$Seating" "state" "LGutterSeats$State;") (List.mem_cons_of_mem _ (List.mem_append_left _ (List.mem_append_left _ (List.mem_append_left _ (List.mem_of_getElem? (i := 0) (by first | rfl | decide +kernel))))))) (fun _ h9 => h9) rfl dX6_find_8 ?_
  refine va_get (D := D) (ci := 8) (v := .int x_this_state_people) (C := RX8) (T := TX8) (N := 9) hx hb hts hin_State hown hK hP 2 rfl rfl 1 (by decide) (hts (.fieldLink RX6 25 "GutterSeats$State" "people" "I") (List.mem_cons_of_mem _ (List.mem_append_left _ (List.mem_append_left _ (List.mem_append_left _ (List.mem_of_getElem? (i := 2) (by first | rfl | decide +kernel))))))) (fun _ h9 => h9) rfl dX6_find_11 ?_
  refine va_mmin hx hb (by rw [hml]; exact hl.1.symm) hown (hts (.methodLink RX6 28 Lib.Math.min.name) (List.mem_cons_of_mem _ (List.mem_append_left _ (List.mem_append_left _ (List.mem_append_left _ (List.mem_of_getElem? (i := 3) (by first | rfl | decide +kernel))))))) (hts (.static Lib.Math.min.name) (List.mem_cons_of_mem _ (List.mem_append_left _ (List.mem_append_left _ (List.mem_append_left _ (List.mem_of_getElem? (i := 4) (by first | rfl | decide +kernel))))))) (hts (.initialized "java/lang/Math") (List.mem_cons_of_mem _ (List.mem_append_left _ (List.mem_append_left _ (List.mem_append_left _ (List.mem_of_getElem? (i := 5) (by first | rfl | decide +kernel))))))) (hts (.code Lib.Math.min.name Lib.Math.min.code 2 (some .int)) (List.mem_cons_of_mem _ (List.mem_append_left _ (List.mem_append_left _ (List.mem_append_left _ (List.mem_of_getElem? (i := 6) (by first | rfl | decide +kernel))))))) (Nat.le_of_ble_eq_true rfl) (Nat.le_of_ble_eq_true rfl) (Nat.le_of_ble_eq_true rfl) (Nat.le_of_ble_eq_true rfl) dX6_find_14 ?_
  refine lv_topi (fun x27 ex27 => ?_)
  have i_x27 : iv x27 0 8 := iv_min ex27 i_x_this_state_gargoyles i_x_this_state_people (by decide) (by decide) (by decide)
  refine lv_istore_n (lv' := [(1, .int x27), (0, .ref q_this)]) hx hb dX6_find_17 rfl hl (by decide) rfl (fun ls hl => ?_)
  refine lv_iconst (v := 1) hx hb dX6_find_18 (by decide) ?_
  refine lv_aload_n hx hb dX6_find_19 rfl (lv_at hl 1 rfl) ?_
  refine va_get (D := D) (ci := 6) (v := .ref q_this_state) (C := RX6) (T := TX6) (N := 2) hx hb hts hin_Seating hown hK hP 0 rfl rfl 1 (by decide) (hts (.fieldLink RX6 15 "GutterSeats$Seating" "state" "LGutterSeats$State;") (List.mem_cons_of_mem _ (List.mem_append_left _ (List.mem_append_left _ (List.mem_append_left _ (List.mem_of_getElem? (i := 0) (by first | rfl | decide +kernel))))))) (fun _ h9 => h9) rfl dX6_find_20 ?_
  refine va_get (D := D) (ci := 8) (v := .int x_this_state_gargoyles) (C := RX8) (T := TX8) (N := 9) hx hb hts hin_State hown hK hP 2 rfl rfl 0 (by decide) (hts (.fieldLink RX6 19 "GutterSeats$State" "gargoyles" "I") (List.mem_cons_of_mem _ (List.mem_append_left _ (List.mem_append_left _ (List.mem_append_left _ (List.mem_of_getElem? (i := 1) (by first | rfl | decide +kernel))))))) (fun _ h9 => h9) rfl dX6_find_23 ?_
  refine lv_ishl hx hb dX6_find_26 ?_
  refine lv_topi (fun x28 ex28 => ?_)
  have i_x28 : iv x28 1 256 := iv_shl1 ex28 i_x_this_state_gargoyles (by decide) (by decide) (by decide) (by decide)
  refine lv_istore_n (lv' := [(2, .int x28), (1, .int x27), (0, .ref q_this)]) hx hb dX6_find_27 rfl hl (by decide) rfl (fun ls hl => ?_)
  refine lv_iconst (v := 0) hx hb dX6_find_28 (by decide) ?_
  refine lv_istore_n (lv' := [(3, .int (0 : Int32)), (2, .int x28), (1, .int x27), (0, .ref q_this)]) hx hb dX6_find_29 rfl hl (by decide) rfl (fun ls hl => ?_)
  exact K30 _ x27 x28 (0 : Int32) f_this_least _ _ ls i_x27 i_x28 (iv_lit (0 : Int32) (by decide) : iv (0 : Int32) 0 256) (Nat.lt_succ_self _) hP hD hS (lv_sub hl [3, 2, 1, 0] rfl)
