abbrev rm_G_needGargoyleA : Room := { frames := 0, cells := 0, slots := 0, locals := 0 }
set_option maxHeartbeats 4000000 in
set_option maxRecDepth 100000 in
theorem c_G_needGargoyleA (l : Launch) (D : va_G) (ct : Nat → ClassId) (q_this q_this_now q_this_now_state q_this_now_state_jaw q_this_now_state_brow q_this_now_state_stone q_this_now_state_age q_this_now_state_family q_this_now_state_seat q_this_tape q_this_reader q_this_plan q_this_kept q_this_walk q_this_seating q_this_dice q_this_gains q_this_placesOf q_this_now_acts q_this_now_seen q_this_now_refused : Nat) (sz : Nat) (x_this_tapeLength x_this_faultPlace x_this_isKept x_this_now_state_gargoyles x_this_now_state_people x_this_now_state_year : Int32) (f_this_now_state_jaw f_this_now_state_brow f_this_now_state_stone f_this_now_state_age f_this_now_state_family f_this_now_state_seat : Nat → Int32) (p1 : Int32) (i_x_this_tapeLength : iv x_this_tapeLength 0 700) (i_x_this_isKept : iv x_this_isKept 0 1) (i_x_this_now_state_gargoyles : iv x_this_now_state_gargoyles 0 8) (i_x_this_now_state_people : iv x_this_now_state_people 0 8) (i_x_this_now_state_year : iv x_this_now_state_year 0 5000) (a_f_this_now_state_seat : av f_this_now_state_seat 8 (-1) 7) (hpa : 0 ≤ p1.toInt ∧ p1.toInt < x_this_now_state_gargoyles.toInt) : cV l yX11_needGargoyle wgX11_needGargoyle rm_G_needGargoyleA D ct [(q_this, .inr (10, [.ref q_this_tape, .int x_this_tapeLength, .int x_this_faultPlace, .ref q_this_reader, .ref q_this_plan, .ref q_this_now, .ref q_this_kept, .int x_this_isKept, .ref q_this_walk, .ref q_this_seating, .ref q_this_dice, .ref q_this_gains, .ref q_this_placesOf])), (q_this_now, .inr (2, [.ref q_this_now_state, .ref q_this_now_acts, .ref q_this_now_seen, .ref q_this_now_refused])), (q_this_now_state, .inr (8, [.int x_this_now_state_gargoyles, .int x_this_now_state_people, .int x_this_now_state_year, .ref q_this_now_state_jaw, .ref q_this_now_state_brow, .ref q_this_now_state_stone, .ref q_this_now_state_age, .ref q_this_now_state_family, .ref q_this_now_state_seat])), (q_this_now_state_jaw, .inl (ct 0, 16, .inl f_this_now_state_jaw)), (q_this_now_state_brow, .inl (ct 0, 16, .inl f_this_now_state_brow)), (q_this_now_state_stone, .inl (ct 0, 8, .inl f_this_now_state_stone)), (q_this_now_state_age, .inl (ct 0, 8, .inl f_this_now_state_age)), (q_this_now_state_family, .inl (ct 0, 8, .inl f_this_now_state_family)), (q_this_now_state_seat, .inl (ct 0, 8, .inl f_this_now_state_seat))] sz [.ref q_this, .int p1] (fun u : Unit => iv p1 0 7 ∧ () = m_G_needGargoyleA x_this_now_state_gargoyles p1) (fun u : Unit => [(q_this, .inr (10, [.ref q_this_tape, .int x_this_tapeLength, .int x_this_faultPlace, .ref q_this_reader, .ref q_this_plan, .ref q_this_now, .ref q_this_kept, .int x_this_isKept, .ref q_this_walk, .ref q_this_seating, .ref q_this_dice, .ref q_this_gains, .ref q_this_placesOf])), (q_this_now, .inr (2, [.ref q_this_now_state, .ref q_this_now_acts, .ref q_this_now_seen, .ref q_this_now_refused])), (q_this_now_state, .inr (8, [.int x_this_now_state_gargoyles, .int x_this_now_state_people, .int x_this_now_state_year, .ref q_this_now_state_jaw, .ref q_this_now_state_brow, .ref q_this_now_state_stone, .ref q_this_now_state_age, .ref q_this_now_state_family, .ref q_this_now_state_seat])), (q_this_now_state_jaw, .inl (ct 0, 16, .inl f_this_now_state_jaw)), (q_this_now_state_brow, .inl (ct 0, 16, .inl f_this_now_state_brow)), (q_this_now_state_stone, .inl (ct 0, 8, .inl f_this_now_state_stone)), (q_this_now_state_age, .inl (ct 0, 8, .inl f_this_now_state_age)), (q_this_now_state_family, .inl (ct 0, 8, .inl f_this_now_state_family)), (q_this_now_state_seat, .inl (ct 0, 8, .inl f_this_now_state_seat))]) := by
  refine cV_of (cc := cX11_needGargoyle) (maxL := 2) (by decide) rfl (Nat.le_of_ble_eq_true rfl) ?_
  intro p e s m args below meth c Q A hx hb hml hts hown hK hP hD hA hAe hsz hname hE ls hl
  have hS : va_S A s.heap s.heap [] := va_S.rf
  have hP : va_P D vwCl [(q_this, .inr (10, [.ref q_this_tape, .int x_this_tapeLength, .int x_this_faultPlace, .ref q_this_reader, .ref q_this_plan, .ref q_this_now, .ref q_this_kept, .int x_this_isKept, .ref q_this_walk, .ref q_this_seating, .ref q_this_dice, .ref q_this_gains, .ref q_this_placesOf])), (q_this_now, .inr (2, [.ref q_this_now_state, .ref q_this_now_acts, .ref q_this_now_seen, .ref q_this_now_refused])), (q_this_now_state, .inr (8, [.int x_this_now_state_gargoyles, .int x_this_now_state_people, .int x_this_now_state_year, .ref q_this_now_state_jaw, .ref q_this_now_state_brow, .ref q_this_now_state_stone, .ref q_this_now_state_age, .ref q_this_now_state_family, .ref q_this_now_state_seat])), (q_this_now_state_jaw, .inl (ct 0, 16, .inl f_this_now_state_jaw)), (q_this_now_state_brow, .inl (ct 0, 16, .inl f_this_now_state_brow)), (q_this_now_state_stone, .inl (ct 0, 8, .inl f_this_now_state_stone)), (q_this_now_state_age, .inl (ct 0, 8, .inl f_this_now_state_age)), (q_this_now_state_family, .inl (ct 0, 8, .inl f_this_now_state_family)), (q_this_now_state_seat, .inl (ct 0, 8, .inl f_this_now_state_seat))] s.heap := hP
  have hD : va_D A [(q_this, .inr (10, [.ref q_this_tape, .int x_this_tapeLength, .int x_this_faultPlace, .ref q_this_reader, .ref q_this_plan, .ref q_this_now, .ref q_this_kept, .int x_this_isKept, .ref q_this_walk, .ref q_this_seating, .ref q_this_dice, .ref q_this_gains, .ref q_this_placesOf])), (q_this_now, .inr (2, [.ref q_this_now_state, .ref q_this_now_acts, .ref q_this_now_seen, .ref q_this_now_refused])), (q_this_now_state, .inr (8, [.int x_this_now_state_gargoyles, .int x_this_now_state_people, .int x_this_now_state_year, .ref q_this_now_state_jaw, .ref q_this_now_state_brow, .ref q_this_now_state_stone, .ref q_this_now_state_age, .ref q_this_now_state_family, .ref q_this_now_state_seat])), (q_this_now_state_jaw, .inl (ct 0, 16, .inl f_this_now_state_jaw)), (q_this_now_state_brow, .inl (ct 0, 16, .inl f_this_now_state_brow)), (q_this_now_state_stone, .inl (ct 0, 8, .inl f_this_now_state_stone)), (q_this_now_state_age, .inl (ct 0, 8, .inl f_this_now_state_age)), (q_this_now_state_family, .inl (ct 0, 8, .inl f_this_now_state_family)), (q_this_now_state_seat, .inl (ct 0, 8, .inl f_this_now_state_seat))] := hD
  have mG : ∀ (i : Nat) {w : Cond}, gT11[i]? = some w → w ∈ wgX11_needGargoyle := fun i w h => List.mem_cons_of_mem _ (List.mem_of_getElem? h)
  have hl : lv_has ls 2 [(0, .ref q_this), (1, .int p1)] := hl
  obtain ⟨R, hRe⟩ : ∃ R : Unit, R = m_G_needGargoyleA x_this_now_state_gargoyles p1 := ⟨_, rfl⟩
  have hR : uy_Q R (fun z : Unit => z) (m_G_needGargoyleA x_this_now_state_gargoyles p1) := hRe
  have hin_G : ∀ w ∈ u_ws RX11 TX11 13, w ∈ wgX11_needGargoyle := fun w h => List.mem_cons_of_mem _ (ingT11_X11 w h)
  have hin_Memory : ∀ w ∈ u_ws RX2 TX2 4, w ∈ wgX11_needGargoyle := fun w h => List.mem_cons_of_mem _ (ingT11_X2 w h)
  have hin_State : ∀ w ∈ u_ws RX8 TX8 9, w ∈ wgX11_needGargoyle := fun w h => List.mem_cons_of_mem _ (ingT11_X8 w h)
  delta m_G_needGargoyleA at hR
  refine lv_iload_n hx hb dX11_needGargoyle_0 rfl (lv_at hl 1 rfl) ?_
  refine lv_if_lt (tgt := 18) hx hb dX11_needGargoyle_1 (by decide) (fun c1 => ?_) (fun c1 => ?_)
  ·
    replace hR := uy_Qp c1 hR
    have j2 : iv p1 (-2147483648) (-1) := iv_ltL c1 (iv_any p1) (iv_lit (0 : Int32) (by decide) : iv (0 : Int32) 0 0) (by decide)
    exact False.elim (by have := hpa; have := (j2).1; have := (j2).2; have := (i_x_this_now_state_gargoyles).1; have := (i_x_this_now_state_gargoyles).2; have := (i_x_this_now_state_people).1; have := (i_x_this_now_state_people).2; have : (0 : Int32).toInt = 0 := rfl; have := lt_i c1; omega)
  ·
    replace hR := uy_Qn c1 hR
    have j3 : iv p1 0 2147483647 := iv_leR (iv_nlt c1) (iv_lit (0 : Int32) (by decide) : iv (0 : Int32) 0 0) (iv_any p1) (by decide)
    refine lv_iload_n hx hb dX11_needGargoyle_4 rfl (lv_at hl 1 rfl) ?_
    refine lv_aload_n hx hb dX11_needGargoyle_5 rfl (lv_at hl 0 rfl) ?_
    refine va_get (D := D) (ci := 10) (v := .ref q_this_now) (C := RX11) (T := TX11) (N := 13) hx hb hts hin_G hown hK hP 0 rfl rfl 5 (by decide) (hts (.fieldLink RX11 39 "GutterSeats" "now" "LGutterSeats$Memory;") (List.mem_cons_of_mem _ (gm11 0 19 (by first | rfl | decide +kernel)))) (fun _ h9 => h9) rfl dX11_needGargoyle_6 ?_
    refine va_get (D := D) (ci := 2) (v := .ref q_this_now_state) (C := RX2) (T := TX2) (N := 4) hx hb hts hin_Memory hown hK hP 1 rfl rfl 0 (by decide) (hts (.fieldLink RX11 61 "GutterSeats$Memory" "state" "LGutterSeats$State;") (List.mem_cons_of_mem _ (gm11 0 29 (by first | rfl | decide +kernel)))) (fun _ h9 => h9) rfl dX11_needGargoyle_9 ?_
    refine va_get (D := D) (ci := 8) (v := .int x_this_now_state_gargoyles) (C := RX8) (T := TX8) (N := 9) hx hb hts hin_State hown hK hP 2 rfl rfl 0 (by decide) (hts (.fieldLink RX11 119 "GutterSeats$State" "gargoyles" "I") (List.mem_cons_of_mem _ (gm11 6 22 (by first | rfl | decide +kernel)))) (fun _ h9 => h9) rfl dX11_needGargoyle_12 ?_
    refine lv_icmp_lt (tgt := 29) hx hb dX11_needGargoyle_15 (by decide) (fun c4 => ?_) (fun c4 => ?_)
    ·
      replace hR := uy_Qp c4 hR
      have j5 : iv p1 0 7 := iv_ltL c4 j3 i_x_this_now_state_gargoyles (by decide)
      have j6 : iv x_this_now_state_gargoyles 1 8 := iv_ltR c4 j3 i_x_this_now_state_gargoyles (by decide)
      exact hE () _ _ _ _ ⟨(show iv p1 0 7 from j5), ((uy_Q0 hR).symm.trans hRe)⟩ hP hD hS dX11_needGargoyle_29
    ·
      replace hR := uy_Qn c4 hR
      exact False.elim (by have := hpa; have := (j3).1; have := (j3).2; have := (i_x_this_now_state_gargoyles).1; have := (i_x_this_now_state_gargoyles).2; have := (i_x_this_now_state_people).1; have := (i_x_this_now_state_people).2; have : (0 : Int32).toInt = 0 := rfl; have := le_i (iv_nlt c1); have := le_i (iv_nlt c4); omega)
abbrev rm_G_needPersonA : Room := { frames := 0, cells := 0, slots := 0, locals := 0 }
set_option maxHeartbeats 4000000 in
set_option maxRecDepth 100000 in
theorem c_G_needPersonA (l : Launch) (D : va_G) (ct : Nat → ClassId) (q_this q_this_now q_this_now_state q_this_now_state_jaw q_this_now_state_brow q_this_now_state_stone q_this_now_state_age q_this_now_state_family q_this_now_state_seat q_this_tape q_this_reader q_this_plan q_this_kept q_this_walk q_this_seating q_this_dice q_this_gains q_this_placesOf q_this_now_acts q_this_now_seen q_this_now_refused : Nat) (sz : Nat) (x_this_tapeLength x_this_faultPlace x_this_isKept x_this_now_state_gargoyles x_this_now_state_people x_this_now_state_year : Int32) (f_this_now_state_jaw f_this_now_state_brow f_this_now_state_stone f_this_now_state_age f_this_now_state_family f_this_now_state_seat : Nat → Int32) (p1 : Int32) (i_x_this_tapeLength : iv x_this_tapeLength 0 700) (i_x_this_isKept : iv x_this_isKept 0 1) (i_x_this_now_state_gargoyles : iv x_this_now_state_gargoyles 0 8) (i_x_this_now_state_people : iv x_this_now_state_people 0 8) (i_x_this_now_state_year : iv x_this_now_state_year 0 5000) (a_f_this_now_state_seat : av f_this_now_state_seat 8 (-1) 7) (hpa : 0 ≤ p1.toInt ∧ p1.toInt < x_this_now_state_people.toInt) : cV l yX11_needPerson wgX11_needPerson rm_G_needPersonA D ct [(q_this, .inr (10, [.ref q_this_tape, .int x_this_tapeLength, .int x_this_faultPlace, .ref q_this_reader, .ref q_this_plan, .ref q_this_now, .ref q_this_kept, .int x_this_isKept, .ref q_this_walk, .ref q_this_seating, .ref q_this_dice, .ref q_this_gains, .ref q_this_placesOf])), (q_this_now, .inr (2, [.ref q_this_now_state, .ref q_this_now_acts, .ref q_this_now_seen, .ref q_this_now_refused])), (q_this_now_state, .inr (8, [.int x_this_now_state_gargoyles, .int x_this_now_state_people, .int x_this_now_state_year, .ref q_this_now_state_jaw, .ref q_this_now_state_brow, .ref q_this_now_state_stone, .ref q_this_now_state_age, .ref q_this_now_state_family, .ref q_this_now_state_seat])), (q_this_now_state_jaw, .inl (ct 0, 16, .inl f_this_now_state_jaw)), (q_this_now_state_brow, .inl (ct 0, 16, .inl f_this_now_state_brow)), (q_this_now_state_stone, .inl (ct 0, 8, .inl f_this_now_state_stone)), (q_this_now_state_age, .inl (ct 0, 8, .inl f_this_now_state_age)), (q_this_now_state_family, .inl (ct 0, 8, .inl f_this_now_state_family)), (q_this_now_state_seat, .inl (ct 0, 8, .inl f_this_now_state_seat))] sz [.ref q_this, .int p1] (fun u : Unit => iv p1 0 7 ∧ () = m_G_needPersonA x_this_now_state_people p1) (fun u : Unit => [(q_this, .inr (10, [.ref q_this_tape, .int x_this_tapeLength, .int x_this_faultPlace, .ref q_this_reader, .ref q_this_plan, .ref q_this_now, .ref q_this_kept, .int x_this_isKept, .ref q_this_walk, .ref q_this_seating, .ref q_this_dice, .ref q_this_gains, .ref q_this_placesOf])), (q_this_now, .inr (2, [.ref q_this_now_state, .ref q_this_now_acts, .ref q_this_now_seen, .ref q_this_now_refused])), (q_this_now_state, .inr (8, [.int x_this_now_state_gargoyles, .int x_this_now_state_people, .int x_this_now_state_year, .ref q_this_now_state_jaw, .ref q_this_now_state_brow, .ref q_this_now_state_stone, .ref q_this_now_state_age, .ref q_this_now_state_family, .ref q_this_now_state_seat])), (q_this_now_state_jaw, .inl (ct 0, 16, .inl f_this_now_state_jaw)), (q_this_now_state_brow, .inl (ct 0, 16, .inl f_this_now_state_brow)), (q_this_now_state_stone, .inl (ct 0, 8, .inl f_this_now_state_stone)), (q_this_now_state_age, .inl (ct 0, 8, .inl f_this_now_state_age)), (q_this_now_state_family, .inl (ct 0, 8, .inl f_this_now_state_family)), (q_this_now_state_seat, .inl (ct 0, 8, .inl f_this_now_state_seat))]) := by
  refine cV_of (cc := cX11_needPerson) (maxL := 2) (by decide) rfl (Nat.le_of_ble_eq_true rfl) ?_
  intro p e s m args below meth c Q A hx hb hml hts hown hK hP hD hA hAe hsz hname hE ls hl
  have hS : va_S A s.heap s.heap [] := va_S.rf
  have hP : va_P D vwCl [(q_this, .inr (10, [.ref q_this_tape, .int x_this_tapeLength, .int x_this_faultPlace, .ref q_this_reader, .ref q_this_plan, .ref q_this_now, .ref q_this_kept, .int x_this_isKept, .ref q_this_walk, .ref q_this_seating, .ref q_this_dice, .ref q_this_gains, .ref q_this_placesOf])), (q_this_now, .inr (2, [.ref q_this_now_state, .ref q_this_now_acts, .ref q_this_now_seen, .ref q_this_now_refused])), (q_this_now_state, .inr (8, [.int x_this_now_state_gargoyles, .int x_this_now_state_people, .int x_this_now_state_year, .ref q_this_now_state_jaw, .ref q_this_now_state_brow, .ref q_this_now_state_stone, .ref q_this_now_state_age, .ref q_this_now_state_family, .ref q_this_now_state_seat])), (q_this_now_state_jaw, .inl (ct 0, 16, .inl f_this_now_state_jaw)), (q_this_now_state_brow, .inl (ct 0, 16, .inl f_this_now_state_brow)), (q_this_now_state_stone, .inl (ct 0, 8, .inl f_this_now_state_stone)), (q_this_now_state_age, .inl (ct 0, 8, .inl f_this_now_state_age)), (q_this_now_state_family, .inl (ct 0, 8, .inl f_this_now_state_family)), (q_this_now_state_seat, .inl (ct 0, 8, .inl f_this_now_state_seat))] s.heap := hP
  have hD : va_D A [(q_this, .inr (10, [.ref q_this_tape, .int x_this_tapeLength, .int x_this_faultPlace, .ref q_this_reader, .ref q_this_plan, .ref q_this_now, .ref q_this_kept, .int x_this_isKept, .ref q_this_walk, .ref q_this_seating, .ref q_this_dice, .ref q_this_gains, .ref q_this_placesOf])), (q_this_now, .inr (2, [.ref q_this_now_state, .ref q_this_now_acts, .ref q_this_now_seen, .ref q_this_now_refused])), (q_this_now_state, .inr (8, [.int x_this_now_state_gargoyles, .int x_this_now_state_people, .int x_this_now_state_year, .ref q_this_now_state_jaw, .ref q_this_now_state_brow, .ref q_this_now_state_stone, .ref q_this_now_state_age, .ref q_this_now_state_family, .ref q_this_now_state_seat])), (q_this_now_state_jaw, .inl (ct 0, 16, .inl f_this_now_state_jaw)), (q_this_now_state_brow, .inl (ct 0, 16, .inl f_this_now_state_brow)), (q_this_now_state_stone, .inl (ct 0, 8, .inl f_this_now_state_stone)), (q_this_now_state_age, .inl (ct 0, 8, .inl f_this_now_state_age)), (q_this_now_state_family, .inl (ct 0, 8, .inl f_this_now_state_family)), (q_this_now_state_seat, .inl (ct 0, 8, .inl f_this_now_state_seat))] := hD
  have mG : ∀ (i : Nat) {w : Cond}, gT11[i]? = some w → w ∈ wgX11_needPerson := fun i w h => List.mem_cons_of_mem _ (List.mem_of_getElem? h)
  have hl : lv_has ls 2 [(0, .ref q_this), (1, .int p1)] := hl
  obtain ⟨R, hRe⟩ : ∃ R : Unit, R = m_G_needPersonA x_this_now_state_people p1 := ⟨_, rfl⟩
  have hR : uy_Q R (fun z : Unit => z) (m_G_needPersonA x_this_now_state_people p1) := hRe
  have hin_G : ∀ w ∈ u_ws RX11 TX11 13, w ∈ wgX11_needPerson := fun w h => List.mem_cons_of_mem _ (ingT11_X11 w h)
  have hin_Memory : ∀ w ∈ u_ws RX2 TX2 4, w ∈ wgX11_needPerson := fun w h => List.mem_cons_of_mem _ (ingT11_X2 w h)
  have hin_State : ∀ w ∈ u_ws RX8 TX8 9, w ∈ wgX11_needPerson := fun w h => List.mem_cons_of_mem _ (ingT11_X8 w h)
  delta m_G_needPersonA at hR
  refine lv_iload_n hx hb dX11_needPerson_0 rfl (lv_at hl 1 rfl) ?_
  refine lv_if_lt (tgt := 18) hx hb dX11_needPerson_1 (by decide) (fun c1 => ?_) (fun c1 => ?_)
  ·
    replace hR := uy_Qp c1 hR
    have j2 : iv p1 (-2147483648) (-1) := iv_ltL c1 (iv_any p1) (iv_lit (0 : Int32) (by decide) : iv (0 : Int32) 0 0) (by decide)
    exact False.elim (by have := hpa; have := (j2).1; have := (j2).2; have := (i_x_this_now_state_gargoyles).1; have := (i_x_this_now_state_gargoyles).2; have := (i_x_this_now_state_people).1; have := (i_x_this_now_state_people).2; have : (0 : Int32).toInt = 0 := rfl; have := lt_i c1; omega)
  ·
    replace hR := uy_Qn c1 hR
    have j3 : iv p1 0 2147483647 := iv_leR (iv_nlt c1) (iv_lit (0 : Int32) (by decide) : iv (0 : Int32) 0 0) (iv_any p1) (by decide)
    refine lv_iload_n hx hb dX11_needPerson_4 rfl (lv_at hl 1 rfl) ?_
    refine lv_aload_n hx hb dX11_needPerson_5 rfl (lv_at hl 0 rfl) ?_
    refine va_get (D := D) (ci := 10) (v := .ref q_this_now) (C := RX11) (T := TX11) (N := 13) hx hb hts hin_G hown hK hP 0 rfl rfl 5 (by decide) (hts (.fieldLink RX11 39 "GutterSeats" "now" "LGutterSeats$Memory;") (List.mem_cons_of_mem _ (gm11 0 19 (by first | rfl | decide +kernel)))) (fun _ h9 => h9) rfl dX11_needPerson_6 ?_
    refine va_get (D := D) (ci := 2) (v := .ref q_this_now_state) (C := RX2) (T := TX2) (N := 4) hx hb hts hin_Memory hown hK hP 1 rfl rfl 0 (by decide) (hts (.fieldLink RX11 61 "GutterSeats$Memory" "state" "LGutterSeats$State;") (List.mem_cons_of_mem _ (gm11 0 29 (by first | rfl | decide +kernel)))) (fun _ h9 => h9) rfl dX11_needPerson_9 ?_
    refine va_get (D := D) (ci := 8) (v := .int x_this_now_state_people) (C := RX8) (T := TX8) (N := 9) hx hb hts hin_State hown hK hP 2 rfl rfl 1 (by decide) (hts (.fieldLink RX11 124 "GutterSeats$State" "people" "I") (List.mem_cons_of_mem _ (gm11 6 23 (by first | rfl | decide +kernel)))) (fun _ h9 => h9) rfl dX11_needPerson_12 ?_
    refine lv_icmp_lt (tgt := 29) hx hb dX11_needPerson_15 (by decide) (fun c4 => ?_) (fun c4 => ?_)
    ·
      replace hR := uy_Qp c4 hR
      have j5 : iv p1 0 7 := iv_ltL c4 j3 i_x_this_now_state_people (by decide)
      have j6 : iv x_this_now_state_people 1 8 := iv_ltR c4 j3 i_x_this_now_state_people (by decide)
      exact hE () _ _ _ _ ⟨(show iv p1 0 7 from j5), ((uy_Q0 hR).symm.trans hRe)⟩ hP hD hS dX11_needPerson_29
    ·
      replace hR := uy_Qn c4 hR
      exact False.elim (by have := hpa; have := (j3).1; have := (j3).2; have := (i_x_this_now_state_gargoyles).1; have := (i_x_this_now_state_gargoyles).2; have := (i_x_this_now_state_people).1; have := (i_x_this_now_state_people).2; have : (0 : Int32).toInt = 0 := rfl; have := le_i (iv_nlt c1); have := le_i (iv_nlt c4); omega)
abbrev rm_G_needWhatA : Room := { frames := 0, cells := 0, slots := 0, locals := 0 }
set_option maxHeartbeats 4000000 in
set_option maxRecDepth 100000 in
theorem c_G_needWhatA (l : Launch) (D : va_G) (ct : Nat → ClassId) (sz : Nat) (p1 p2 : Int32) (i_p2 : iv p2 0 5) (hpa : 0 ≤ p1.toInt ∧ p1.toInt ≤ p2.toInt) : cV l yX11_needWhat wgX11_needWhat rm_G_needWhatA D ct [] sz [.int p1, .int p2] (fun u : Unit => (0 ≤ p1.toInt ∧ p1.toInt ≤ p2.toInt) ∧ () = m_G_needWhatA p1 p2) (fun u : Unit => []) := by
  refine cV_of (cc := cX11_needWhat) (maxL := 2) (by decide) rfl (Nat.le_of_ble_eq_true rfl) ?_
  intro p e s m args below meth c Q A hx hb hml hts hown hK hP hD hA hAe hsz hname hE ls hl
  have hS : va_S A s.heap s.heap [] := va_S.rf
  have hP : va_P D vwCl [] s.heap := hP
  have hD : va_D A [] := hD
  have mG : ∀ (i : Nat) {w : Cond}, gT11[i]? = some w → w ∈ wgX11_needWhat := fun i w h => List.mem_cons_of_mem _ (List.mem_of_getElem? h)
  have hl : lv_has ls 2 [(0, .int p1), (1, .int p2)] := hl
  obtain ⟨R, hRe⟩ : ∃ R : Unit, R = m_G_needWhatA p1 p2 := ⟨_, rfl⟩
  have hR : uy_Q R (fun z : Unit => z) (m_G_needWhatA p1 p2) := hRe
  delta m_G_needWhatA at hR
  refine lv_iload_n hx hb dX11_needWhat_0 rfl (lv_at hl 0 rfl) ?_
  refine lv_if_lt (tgt := 9) hx hb dX11_needWhat_1 (by decide) (fun c1 => ?_) (fun c1 => ?_)
  ·
    replace hR := uy_Qp c1 hR
    have j2 : iv p1 (-2147483648) (-1) := iv_ltL c1 (iv_any p1) (iv_lit (0 : Int32) (by decide) : iv (0 : Int32) 0 0) (by decide)
    exact False.elim (by have := hpa; have := (j2).1; have := (j2).2; have := (i_p2).1; have := (i_p2).2; have : (0 : Int32).toInt = 0 := rfl; have := lt_i c1; omega)
  ·
    replace hR := uy_Qn c1 hR
    have j3 : iv p1 0 2147483647 := iv_leR (iv_nlt c1) (iv_lit (0 : Int32) (by decide) : iv (0 : Int32) 0 0) (iv_any p1) (by decide)
    refine lv_iload_n hx hb dX11_needWhat_4 rfl (lv_at hl 0 rfl) ?_
    refine lv_iload_n hx hb dX11_needWhat_5 rfl (lv_at hl 1 rfl) ?_
    refine lv_icmp_le (tgt := 20) hx hb dX11_needWhat_6 (by decide) (fun c4 => ?_) (fun c4 => ?_)
    ·
      replace hR := uy_Qp c4 hR
      have j5 : iv p1 0 5 := iv_leL c4 j3 i_p2 (by decide)
      exact hE () _ _ _ _ ⟨(show 0 ≤ p1.toInt ∧ p1.toInt ≤ p2.toInt from hpa), ((uy_Q0 hR).symm.trans hRe)⟩ hP hD hS dX11_needWhat_20
    ·
      replace hR := uy_Qn c4 hR
      have j6 : iv p1 1 2147483647 := iv_ltR (iv_nle c4) i_p2 j3 (by decide)
      exact False.elim (by have := hpa; have := (j6).1; have := (j6).2; have := (i_p2).1; have := (i_p2).2; have : (0 : Int32).toInt = 0 := rfl; have := le_i (iv_nlt c1); have := lt_i (iv_nle c4); omega)
abbrev rm_G_needYearsA : Room := { frames := 0, cells := 0, slots := 0, locals := 0 }
set_option maxHeartbeats 4000000 in
set_option maxRecDepth 100000 in
theorem c_G_needYearsA (l : Launch) (D : va_G) (ct : Nat → ClassId) (sz : Nat) (p1 p2 : Int32) (i_p2 : iv p2 0 1) (hpa : p2.toInt ≤ p1.toInt ∧ p1.toInt ≤ 60) : cV l yX11_needYears wgX11_needYears rm_G_needYearsA D ct [] sz [.int p1, .int p2] (fun u : Unit => (p2.toInt ≤ p1.toInt ∧ p1.toInt ≤ 60) ∧ () = m_G_needYearsA p1 p2) (fun u : Unit => []) := by
  refine cV_of (cc := cX11_needYears) (maxL := 2) (by decide) rfl (Nat.le_of_ble_eq_true rfl) ?_
  intro p e s m args below meth c Q A hx hb hml hts hown hK hP hD hA hAe hsz hname hE ls hl
  have hS : va_S A s.heap s.heap [] := va_S.rf
  have hP : va_P D vwCl [] s.heap := hP
  have hD : va_D A [] := hD
  have mG : ∀ (i : Nat) {w : Cond}, gT11[i]? = some w → w ∈ wgX11_needYears := fun i w h => List.mem_cons_of_mem _ (List.mem_of_getElem? h)
  have hl : lv_has ls 2 [(0, .int p1), (1, .int p2)] := hl
  obtain ⟨R, hRe⟩ : ∃ R : Unit, R = m_G_needYearsA p1 p2 := ⟨_, rfl⟩
  have hR : uy_Q R (fun z : Unit => z) (m_G_needYearsA p1 p2) := hRe
  delta m_G_needYearsA at hR
  refine lv_iload_n hx hb dX11_needYears_0 rfl (lv_at hl 0 rfl) ?_
  refine lv_iload_n hx hb dX11_needYears_1 rfl (lv_at hl 1 rfl) ?_
  refine lv_icmp_lt (tgt := 11) hx hb dX11_needYears_2 (by decide) (fun c1 => ?_) (fun c1 => ?_)
  ·
    replace hR := uy_Qp c1 hR
    have j2 : iv p1 (-2147483648) 0 := iv_ltL c1 (iv_any p1) i_p2 (by decide)
    exact False.elim (by have := hpa; have := (j2).1; have := (j2).2; have := (i_p2).1; have := (i_p2).2; have := lt_i c1; omega)
  ·
    replace hR := uy_Qn c1 hR
    have j3 : iv p1 0 2147483647 := iv_leR (iv_nlt c1) i_p2 (iv_any p1) (by decide)
    refine lv_iload_n hx hb dX11_needYears_5 rfl (lv_at hl 0 rfl) ?_
    refine lv_bipush (v := 60) hx hb dX11_needYears_6 (by decide) ?_
    refine lv_icmp_le (tgt := 22) hx hb dX11_needYears_8 (by decide) (fun c4 => ?_) (fun c4 => ?_)
    ·
      replace hR := uy_Qp c4 hR
      have j5 : iv p1 0 60 := iv_leL c4 j3 (iv_lit (60 : Int32) (by decide) : iv (60 : Int32) 60 60) (by decide)
      exact hE () _ _ _ _ ⟨(show p2.toInt ≤ p1.toInt ∧ p1.toInt ≤ 60 from hpa), ((uy_Q0 hR).symm.trans hRe)⟩ hP hD hS dX11_needYears_22
    ·
      replace hR := uy_Qn c4 hR
      have j6 : iv p1 61 2147483647 := iv_ltR (iv_nle c4) (iv_lit (60 : Int32) (by decide) : iv (60 : Int32) 60 60) j3 (by decide)
      exact False.elim (by have := hpa; have := (j6).1; have := (j6).2; have := (i_p2).1; have := (i_p2).2; have : (60 : Int32).toInt = 60 := rfl; have := le_i (iv_nlt c1); have := lt_i (iv_nle c4); omega)
