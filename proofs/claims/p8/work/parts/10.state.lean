abbrev rm_State_faceOf : Room := { frames := 0, cells := 0, slots := 0, locals := 0 }
set_option maxHeartbeats 4000000 in
set_option maxRecDepth 100000 in
theorem c_State_faceOf (l : Launch) (D : va_G) (ct : Nat → ClassId) (p1 : Int32) (i_p1 : iv p1 0 7) : cP l yX8_faceOf wsX8_faceOf rm_State_faceOf D ct [] [.int p1] (fun r : Int32 => iv r 8 15 ∧ r = m_State_faceOf p1) := by
  refine cP_of (cc := cX8_faceOf) (maxL := 1) (by decide) rfl (Nat.le_of_ble_eq_true rfl) ?_
  intro p e s m args below meth c Q hx hb hml hts hown hK hP hE ls hl
  have hl : lv_has ls 1 [(0, .int p1)] := hl
  obtain ⟨R, hRe⟩ : ∃ R : (Int32), R = m_State_faceOf p1 := ⟨_, rfl⟩
  have hR : uy_Q R (fun z : (Int32) => z) (m_State_faceOf p1) := hRe
  delta m_State_faceOf at hR
  refine lv_bipush (v := 8) hx hb dX8_faceOf_0 (by decide) ?_
  refine lv_iload_n hx hb dX8_faceOf_2 rfl (lv_at hl 0 rfl) ?_
  refine lv_iadd hx hb dX8_faceOf_3 ?_
  refine lv_topi (fun x1 ex1 => ?_)
  replace hR := uy_Ls ex1 hR
  have i_x1 : iv x1 8 15 := iv_add ex1 (iv_lit (8 : Int32) (by decide) : iv (8 : Int32) 8 8) i_p1 (by decide) (by decide) (by decide) (by decide)
  exact hE _ _ _ ⟨i_x1, ((uy_Q0 hR).symm.trans hRe)⟩ dX8_faceOf_4
abbrev rm_State_copyFrom : Room := { frames := 1, cells := 0, slots := 0, locals := 60 }
set_option maxHeartbeats 4000000 in
set_option maxRecDepth 100000 in
theorem c_State_copyFrom (l : Launch) (D : va_G) (ct : Nat → ClassId) (q_this q_this_jaw q_this_brow q_this_stone q_this_age q_this_family q_this_seat q_o q_o_jaw q_o_brow q_o_stone q_o_age q_o_family q_o_seat : Nat) (sz : Nat) (x_this_gargoyles x_this_people x_this_year x_o_gargoyles x_o_people x_o_year : Int32) (f_this_jaw f_this_brow f_this_stone f_this_age f_this_family f_this_seat f_o_jaw f_o_brow f_o_stone f_o_age f_o_family f_o_seat : Nat → Int32) (i_x_this_gargoyles : iv x_this_gargoyles 0 8) (i_x_this_people : iv x_this_people 0 8) (i_x_this_year : iv x_this_year 0 5000) (a_f_this_seat : av f_this_seat 8 (-1) 7) (i_x_o_gargoyles : iv x_o_gargoyles 0 8) (i_x_o_people : iv x_o_people 0 8) (i_x_o_year : iv x_o_year 0 5000) (a_f_o_seat : av f_o_seat 8 (-1) 7) : cV l yX8_copyFrom wsX8_copyFrom rm_State_copyFrom D ct [(q_this, .inr (8, [.int x_this_gargoyles, .int x_this_people, .int x_this_year, .ref q_this_jaw, .ref q_this_brow, .ref q_this_stone, .ref q_this_age, .ref q_this_family, .ref q_this_seat])), (q_this_jaw, .inl (ct 0, 16, .inl f_this_jaw)), (q_this_brow, .inl (ct 0, 16, .inl f_this_brow)), (q_this_stone, .inl (ct 0, 8, .inl f_this_stone)), (q_this_age, .inl (ct 0, 8, .inl f_this_age)), (q_this_family, .inl (ct 0, 8, .inl f_this_family)), (q_this_seat, .inl (ct 0, 8, .inl f_this_seat)), (q_o, .inr (8, [.int x_o_gargoyles, .int x_o_people, .int x_o_year, .ref q_o_jaw, .ref q_o_brow, .ref q_o_stone, .ref q_o_age, .ref q_o_family, .ref q_o_seat])), (q_o_jaw, .inl (ct 0, 16, .inl f_o_jaw)), (q_o_brow, .inl (ct 0, 16, .inl f_o_brow)), (q_o_stone, .inl (ct 0, 8, .inl f_o_stone)), (q_o_age, .inl (ct 0, 8, .inl f_o_age)), (q_o_family, .inl (ct 0, 8, .inl f_o_family)), (q_o_seat, .inl (ct 0, 8, .inl f_o_seat))] sz [.ref q_this, .ref q_o] (fun u : Int32 × Int32 × Int32 × (Nat → Int32) × (Nat → Int32) × (Nat → Int32) × (Nat → Int32) × (Nat → Int32) × (Nat → Int32) => iv u.1 0 8 ∧ iv u.2.1 0 8 ∧ iv u.2.2.1 0 5000 ∧ av u.2.2.2.2.2.2.2.2 8 (-1) 7 ∧ u.1 = x_o_gargoyles ∧ u.2.1 = x_o_people ∧ u.2.2.1 = x_o_year ∧ (∀ k : Nat, k < 16 → u.2.2.2.1 k = f_o_jaw k) ∧ (∀ k : Nat, k < 16 → u.2.2.2.2.1 k = f_o_brow k) ∧ (∀ k : Nat, k < 8 → u.2.2.2.2.2.1 k = f_o_stone k) ∧ (∀ k : Nat, k < 8 → u.2.2.2.2.2.2.1 k = f_o_age k) ∧ (∀ k : Nat, k < 8 → u.2.2.2.2.2.2.2.1 k = f_o_family k) ∧ (∀ k : Nat, k < 8 → u.2.2.2.2.2.2.2.2 k = f_o_seat k) ∧ (u.1, u.2.1, u.2.2.1, u.2.2.2.1, u.2.2.2.2.1, u.2.2.2.2.2.1, u.2.2.2.2.2.2.1, u.2.2.2.2.2.2.2.1, u.2.2.2.2.2.2.2.2) = m_State_copyFrom f_this_jaw f_this_brow f_this_stone f_this_age f_this_family f_this_seat x_o_gargoyles x_o_people x_o_year f_o_jaw f_o_brow f_o_stone f_o_age f_o_family f_o_seat) (fun u : Int32 × Int32 × Int32 × (Nat → Int32) × (Nat → Int32) × (Nat → Int32) × (Nat → Int32) × (Nat → Int32) × (Nat → Int32) => [(q_this, .inr (8, [.int u.1, .int u.2.1, .int u.2.2.1, .ref q_this_jaw, .ref q_this_brow, .ref q_this_stone, .ref q_this_age, .ref q_this_family, .ref q_this_seat])), (q_this_jaw, .inl (ct 0, 16, .inl u.2.2.2.1)), (q_this_brow, .inl (ct 0, 16, .inl u.2.2.2.2.1)), (q_this_stone, .inl (ct 0, 8, .inl u.2.2.2.2.2.1)), (q_this_age, .inl (ct 0, 8, .inl u.2.2.2.2.2.2.1)), (q_this_family, .inl (ct 0, 8, .inl u.2.2.2.2.2.2.2.1)), (q_this_seat, .inl (ct 0, 8, .inl u.2.2.2.2.2.2.2.2)), (q_o, .inr (8, [.int x_o_gargoyles, .int x_o_people, .int x_o_year, .ref q_o_jaw, .ref q_o_brow, .ref q_o_stone, .ref q_o_age, .ref q_o_family, .ref q_o_seat])), (q_o_jaw, .inl (ct 0, 16, .inl f_o_jaw)), (q_o_brow, .inl (ct 0, 16, .inl f_o_brow)), (q_o_stone, .inl (ct 0, 8, .inl f_o_stone)), (q_o_age, .inl (ct 0, 8, .inl f_o_age)), (q_o_family, .inl (ct 0, 8, .inl f_o_family)), (q_o_seat, .inl (ct 0, 8, .inl f_o_seat))]) := by
  refine cV_of (cc := cX8_copyFrom) (maxL := 2) (by decide) rfl (Nat.le_of_ble_eq_true rfl) ?_
  intro p e s m args below meth c Q A hx hb hml hts hown hK hP hD hA hAe hsz hname hE ls hl
  have hS : va_S A s.heap s.heap [] := va_S.rf
  have hP : va_P D vwCl [(q_this, .inr (8, [.int x_this_gargoyles, .int x_this_people, .int x_this_year, .ref q_this_jaw, .ref q_this_brow, .ref q_this_stone, .ref q_this_age, .ref q_this_family, .ref q_this_seat])), (q_this_jaw, .inl (ct 0, 16, .inl f_this_jaw)), (q_this_brow, .inl (ct 0, 16, .inl f_this_brow)), (q_this_stone, .inl (ct 0, 8, .inl f_this_stone)), (q_this_age, .inl (ct 0, 8, .inl f_this_age)), (q_this_family, .inl (ct 0, 8, .inl f_this_family)), (q_this_seat, .inl (ct 0, 8, .inl f_this_seat)), (q_o, .inr (8, [.int x_o_gargoyles, .int x_o_people, .int x_o_year, .ref q_o_jaw, .ref q_o_brow, .ref q_o_stone, .ref q_o_age, .ref q_o_family, .ref q_o_seat])), (q_o_jaw, .inl (ct 0, 16, .inl f_o_jaw)), (q_o_brow, .inl (ct 0, 16, .inl f_o_brow)), (q_o_stone, .inl (ct 0, 8, .inl f_o_stone)), (q_o_age, .inl (ct 0, 8, .inl f_o_age)), (q_o_family, .inl (ct 0, 8, .inl f_o_family)), (q_o_seat, .inl (ct 0, 8, .inl f_o_seat))] s.heap := hP
  have hD : va_D A [(q_this, .inr (8, [.int x_this_gargoyles, .int x_this_people, .int x_this_year, .ref q_this_jaw, .ref q_this_brow, .ref q_this_stone, .ref q_this_age, .ref q_this_family, .ref q_this_seat])), (q_this_jaw, .inl (ct 0, 16, .inl f_this_jaw)), (q_this_brow, .inl (ct 0, 16, .inl f_this_brow)), (q_this_stone, .inl (ct 0, 8, .inl f_this_stone)), (q_this_age, .inl (ct 0, 8, .inl f_this_age)), (q_this_family, .inl (ct 0, 8, .inl f_this_family)), (q_this_seat, .inl (ct 0, 8, .inl f_this_seat)), (q_o, .inr (8, [.int x_o_gargoyles, .int x_o_people, .int x_o_year, .ref q_o_jaw, .ref q_o_brow, .ref q_o_stone, .ref q_o_age, .ref q_o_family, .ref q_o_seat])), (q_o_jaw, .inl (ct 0, 16, .inl f_o_jaw)), (q_o_brow, .inl (ct 0, 16, .inl f_o_brow)), (q_o_stone, .inl (ct 0, 8, .inl f_o_stone)), (q_o_age, .inl (ct 0, 8, .inl f_o_age)), (q_o_family, .inl (ct 0, 8, .inl f_o_family)), (q_o_seat, .inl (ct 0, 8, .inl f_o_seat))] := hD
  have hl : lv_has ls 2 [(0, .ref q_this), (1, .ref q_o)] := hl
  obtain ⟨R, hRe⟩ : ∃ R : (Int32 × Int32 × Int32 × (Nat → Int32) × (Nat → Int32) × (Nat → Int32) × (Nat → Int32) × (Nat → Int32) × (Nat → Int32)), R = m_State_copyFrom f_this_jaw f_this_brow f_this_stone f_this_age f_this_family f_this_seat x_o_gargoyles x_o_people x_o_year f_o_jaw f_o_brow f_o_stone f_o_age f_o_family f_o_seat := ⟨_, rfl⟩
  have hR : uy_Q R (fun z : (Int32 × Int32 × Int32 × (Nat → Int32) × (Nat → Int32) × (Nat → Int32) × (Nat → Int32) × (Nat → Int32) × (Nat → Int32)) => z) (m_State_copyFrom f_this_jaw f_this_brow f_this_stone f_this_age f_this_family f_this_seat x_o_gargoyles x_o_people x_o_year f_o_jaw f_o_brow f_o_stone f_o_age f_o_family f_o_seat) := hRe
  have hin_State : ∀ w ∈ u_ws RX8 TX8 9, w ∈ wsX8_copyFrom := fun w h => List.mem_cons_of_mem _ (List.mem_append_right _ (h))
  delta m_State_copyFrom at hR
  refine lv_aload_n hx hb dX8_copyFrom_0 rfl (lv_at hl 0 rfl) ?_
  refine lv_aload_n hx hb dX8_copyFrom_1 rfl (lv_at hl 1 rfl) ?_
  refine va_get (D := D) (ci := 8) (v := .int x_o_gargoyles) (C := RX8) (T := TX8) (N := 9) hx hb hts hin_State hown hK hP 7 rfl rfl 0 (by decide) (hts (.fieldLink RX8 30 "GutterSeats$State" "gargoyles" "I") (List.mem_cons_of_mem _ (List.mem_append_left _ (List.mem_of_getElem? (i := 0) (by first | rfl | decide +kernel))))) (fun _ h9 => h9) rfl dX8_copyFrom_2 ?_
  refine va_put (D := D) (ci := 8) (v := .int x_o_gargoyles) (ty := .int) (C := RX8) (T := TX8) (N := 9) hx hb hts hin_State tyX8 tyX8_ok nmX8 hown hK hP hD hS 0 rfl rfl 0 (by decide) (hts (.fieldLink RX8 30 "GutterSeats$State" "gargoyles" "I") (List.mem_cons_of_mem _ (List.mem_append_left _ (List.mem_of_getElem? (i := 0) (by first | rfl | decide +kernel))))) (fun _ h9 => h9) rfl (by first | exact tyX8_ok 0 (by decide) | decide +kernel) rfl rfl (Nat.le_of_ble_eq_true rfl) dX8_copyFrom_5 (fun H locs hP hD hS => ?_)
  have hP : va_P D vwCl [(q_this, .inr (8, [.int x_o_gargoyles, .int x_this_people, .int x_this_year, .ref q_this_jaw, .ref q_this_brow, .ref q_this_stone, .ref q_this_age, .ref q_this_family, .ref q_this_seat])), (q_this_jaw, .inl (ct 0, 16, .inl f_this_jaw)), (q_this_brow, .inl (ct 0, 16, .inl f_this_brow)), (q_this_stone, .inl (ct 0, 8, .inl f_this_stone)), (q_this_age, .inl (ct 0, 8, .inl f_this_age)), (q_this_family, .inl (ct 0, 8, .inl f_this_family)), (q_this_seat, .inl (ct 0, 8, .inl f_this_seat)), (q_o, .inr (8, [.int x_o_gargoyles, .int x_o_people, .int x_o_year, .ref q_o_jaw, .ref q_o_brow, .ref q_o_stone, .ref q_o_age, .ref q_o_family, .ref q_o_seat])), (q_o_jaw, .inl (ct 0, 16, .inl f_o_jaw)), (q_o_brow, .inl (ct 0, 16, .inl f_o_brow)), (q_o_stone, .inl (ct 0, 8, .inl f_o_stone)), (q_o_age, .inl (ct 0, 8, .inl f_o_age)), (q_o_family, .inl (ct 0, 8, .inl f_o_family)), (q_o_seat, .inl (ct 0, 8, .inl f_o_seat))] H := hP
  have hD : va_D A [(q_this, .inr (8, [.int x_o_gargoyles, .int x_this_people, .int x_this_year, .ref q_this_jaw, .ref q_this_brow, .ref q_this_stone, .ref q_this_age, .ref q_this_family, .ref q_this_seat])), (q_this_jaw, .inl (ct 0, 16, .inl f_this_jaw)), (q_this_brow, .inl (ct 0, 16, .inl f_this_brow)), (q_this_stone, .inl (ct 0, 8, .inl f_this_stone)), (q_this_age, .inl (ct 0, 8, .inl f_this_age)), (q_this_family, .inl (ct 0, 8, .inl f_this_family)), (q_this_seat, .inl (ct 0, 8, .inl f_this_seat)), (q_o, .inr (8, [.int x_o_gargoyles, .int x_o_people, .int x_o_year, .ref q_o_jaw, .ref q_o_brow, .ref q_o_stone, .ref q_o_age, .ref q_o_family, .ref q_o_seat])), (q_o_jaw, .inl (ct 0, 16, .inl f_o_jaw)), (q_o_brow, .inl (ct 0, 16, .inl f_o_brow)), (q_o_stone, .inl (ct 0, 8, .inl f_o_stone)), (q_o_age, .inl (ct 0, 8, .inl f_o_age)), (q_o_family, .inl (ct 0, 8, .inl f_o_family)), (q_o_seat, .inl (ct 0, 8, .inl f_o_seat))] := hD
  refine lv_aload_n hx hb dX8_copyFrom_8 rfl (lv_at hl 0 rfl) ?_
  refine lv_aload_n hx hb dX8_copyFrom_9 rfl (lv_at hl 1 rfl) ?_
  refine va_get (D := D) (ci := 8) (v := .int x_o_people) (C := RX8) (T := TX8) (N := 9) hx hb hts hin_State hown hK hP 7 rfl rfl 1 (by decide) (hts (.fieldLink RX8 34 "GutterSeats$State" "people" "I") (List.mem_cons_of_mem _ (List.mem_append_left _ (List.mem_of_getElem? (i := 1) (by first | rfl | decide +kernel))))) (fun _ h9 => h9) rfl dX8_copyFrom_10 ?_
  refine va_put (D := D) (ci := 8) (v := .int x_o_people) (ty := .int) (C := RX8) (T := TX8) (N := 9) hx hb hts hin_State tyX8 tyX8_ok nmX8 hown hK hP hD hS 0 rfl rfl 1 (by decide) (hts (.fieldLink RX8 34 "GutterSeats$State" "people" "I") (List.mem_cons_of_mem _ (List.mem_append_left _ (List.mem_of_getElem? (i := 1) (by first | rfl | decide +kernel))))) (fun _ h9 => h9) rfl (by first | exact tyX8_ok 1 (by decide) | decide +kernel) rfl rfl (Nat.le_of_ble_eq_true rfl) dX8_copyFrom_13 (fun H locs hP hD hS => ?_)
  have hP : va_P D vwCl [(q_this, .inr (8, [.int x_o_gargoyles, .int x_o_people, .int x_this_year, .ref q_this_jaw, .ref q_this_brow, .ref q_this_stone, .ref q_this_age, .ref q_this_family, .ref q_this_seat])), (q_this_jaw, .inl (ct 0, 16, .inl f_this_jaw)), (q_this_brow, .inl (ct 0, 16, .inl f_this_brow)), (q_this_stone, .inl (ct 0, 8, .inl f_this_stone)), (q_this_age, .inl (ct 0, 8, .inl f_this_age)), (q_this_family, .inl (ct 0, 8, .inl f_this_family)), (q_this_seat, .inl (ct 0, 8, .inl f_this_seat)), (q_o, .inr (8, [.int x_o_gargoyles, .int x_o_people, .int x_o_year, .ref q_o_jaw, .ref q_o_brow, .ref q_o_stone, .ref q_o_age, .ref q_o_family, .ref q_o_seat])), (q_o_jaw, .inl (ct 0, 16, .inl f_o_jaw)), (q_o_brow, .inl (ct 0, 16, .inl f_o_brow)), (q_o_stone, .inl (ct 0, 8, .inl f_o_stone)), (q_o_age, .inl (ct 0, 8, .inl f_o_age)), (q_o_family, .inl (ct 0, 8, .inl f_o_family)), (q_o_seat, .inl (ct 0, 8, .inl f_o_seat))] H := hP
  have hD : va_D A [(q_this, .inr (8, [.int x_o_gargoyles, .int x_o_people, .int x_this_year, .ref q_this_jaw, .ref q_this_brow, .ref q_this_stone, .ref q_this_age, .ref q_this_family, .ref q_this_seat])), (q_this_jaw, .inl (ct 0, 16, .inl f_this_jaw)), (q_this_brow, .inl (ct 0, 16, .inl f_this_brow)), (q_this_stone, .inl (ct 0, 8, .inl f_this_stone)), (q_this_age, .inl (ct 0, 8, .inl f_this_age)), (q_this_family, .inl (ct 0, 8, .inl f_this_family)), (q_this_seat, .inl (ct 0, 8, .inl f_this_seat)), (q_o, .inr (8, [.int x_o_gargoyles, .int x_o_people, .int x_o_year, .ref q_o_jaw, .ref q_o_brow, .ref q_o_stone, .ref q_o_age, .ref q_o_family, .ref q_o_seat])), (q_o_jaw, .inl (ct 0, 16, .inl f_o_jaw)), (q_o_brow, .inl (ct 0, 16, .inl f_o_brow)), (q_o_stone, .inl (ct 0, 8, .inl f_o_stone)), (q_o_age, .inl (ct 0, 8, .inl f_o_age)), (q_o_family, .inl (ct 0, 8, .inl f_o_family)), (q_o_seat, .inl (ct 0, 8, .inl f_o_seat))] := hD
  refine lv_aload_n hx hb dX8_copyFrom_16 rfl (lv_at hl 0 rfl) ?_
  refine lv_aload_n hx hb dX8_copyFrom_17 rfl (lv_at hl 1 rfl) ?_
  refine va_get (D := D) (ci := 8) (v := .int x_o_year) (C := RX8) (T := TX8) (N := 9) hx hb hts hin_State hown hK hP 7 rfl rfl 2 (by decide) (hts (.fieldLink RX8 37 "GutterSeats$State" "year" "I") (List.mem_cons_of_mem _ (List.mem_append_left _ (List.mem_of_getElem? (i := 2) (by first | rfl | decide +kernel))))) (fun _ h9 => h9) rfl dX8_copyFrom_18 ?_
  refine va_put (D := D) (ci := 8) (v := .int x_o_year) (ty := .int) (C := RX8) (T := TX8) (N := 9) hx hb hts hin_State tyX8 tyX8_ok nmX8 hown hK hP hD hS 0 rfl rfl 2 (by decide) (hts (.fieldLink RX8 37 "GutterSeats$State" "year" "I") (List.mem_cons_of_mem _ (List.mem_append_left _ (List.mem_of_getElem? (i := 2) (by first | rfl | decide +kernel))))) (fun _ h9 => h9) rfl (by first | exact tyX8_ok 2 (by decide) | decide +kernel) rfl rfl (Nat.le_of_ble_eq_true rfl) dX8_copyFrom_21 (fun H locs hP hD hS => ?_)
  have hP : va_P D vwCl [(q_this, .inr (8, [.int x_o_gargoyles, .int x_o_people, .int x_o_year, .ref q_this_jaw, .ref q_this_brow, .ref q_this_stone, .ref q_this_age, .ref q_this_family, .ref q_this_seat])), (q_this_jaw, .inl (ct 0, 16, .inl f_this_jaw)), (q_this_brow, .inl (ct 0, 16, .inl f_this_brow)), (q_this_stone, .inl (ct 0, 8, .inl f_this_stone)), (q_this_age, .inl (ct 0, 8, .inl f_this_age)), (q_this_family, .inl (ct 0, 8, .inl f_this_family)), (q_this_seat, .inl (ct 0, 8, .inl f_this_seat)), (q_o, .inr (8, [.int x_o_gargoyles, .int x_o_people, .int x_o_year, .ref q_o_jaw, .ref q_o_brow, .ref q_o_stone, .ref q_o_age, .ref q_o_family, .ref q_o_seat])), (q_o_jaw, .inl (ct 0, 16, .inl f_o_jaw)), (q_o_brow, .inl (ct 0, 16, .inl f_o_brow)), (q_o_stone, .inl (ct 0, 8, .inl f_o_stone)), (q_o_age, .inl (ct 0, 8, .inl f_o_age)), (q_o_family, .inl (ct 0, 8, .inl f_o_family)), (q_o_seat, .inl (ct 0, 8, .inl f_o_seat))] H := hP
  have hD : va_D A [(q_this, .inr (8, [.int x_o_gargoyles, .int x_o_people, .int x_o_year, .ref q_this_jaw, .ref q_this_brow, .ref q_this_stone, .ref q_this_age, .ref q_this_family, .ref q_this_seat])), (q_this_jaw, .inl (ct 0, 16, .inl f_this_jaw)), (q_this_brow, .inl (ct 0, 16, .inl f_this_brow)), (q_this_stone, .inl (ct 0, 8, .inl f_this_stone)), (q_this_age, .inl (ct 0, 8, .inl f_this_age)), (q_this_family, .inl (ct 0, 8, .inl f_this_family)), (q_this_seat, .inl (ct 0, 8, .inl f_this_seat)), (q_o, .inr (8, [.int x_o_gargoyles, .int x_o_people, .int x_o_year, .ref q_o_jaw, .ref q_o_brow, .ref q_o_stone, .ref q_o_age, .ref q_o_family, .ref q_o_seat])), (q_o_jaw, .inl (ct 0, 16, .inl f_o_jaw)), (q_o_brow, .inl (ct 0, 16, .inl f_o_brow)), (q_o_stone, .inl (ct 0, 8, .inl f_o_stone)), (q_o_age, .inl (ct 0, 8, .inl f_o_age)), (q_o_family, .inl (ct 0, 8, .inl f_o_family)), (q_o_seat, .inl (ct 0, 8, .inl f_o_seat))] := hD
  refine lv_aload_n hx hb dX8_copyFrom_24 rfl (lv_at hl 1 rfl) ?_
  refine va_get (D := D) (ci := 8) (v := .ref q_o_jaw) (C := RX8) (T := TX8) (N := 9) hx hb hts hin_State hown hK hP 7 rfl rfl 3 (by decide) (hts (.fieldLink RX8 9 "GutterSeats$State" "jaw" "[I") (List.mem_cons_of_mem _ (List.mem_append_left _ (List.mem_of_getElem? (i := 3) (by first | rfl | decide +kernel))))) (fun _ h9 => h9) rfl dX8_copyFrom_25 ?_
  refine lv_iconst (v := 0) hx hb dX8_copyFrom_28 (by decide) ?_
  refine lv_aload_n hx hb dX8_copyFrom_29 rfl (lv_at hl 0 rfl) ?_
  refine va_get (D := D) (ci := 8) (v := .ref q_this_jaw) (C := RX8) (T := TX8) (N := 9) hx hb hts hin_State hown hK hP 0 rfl rfl 3 (by decide) (hts (.fieldLink RX8 9 "GutterSeats$State" "jaw" "[I") (List.mem_cons_of_mem _ (List.mem_append_left _ (List.mem_of_getElem? (i := 3) (by first | rfl | decide +kernel))))) (fun _ h9 => h9) rfl dX8_copyFrom_30 ?_
  refine lv_iconst (v := 0) hx hb dX8_copyFrom_33 (by decide) ?_
  refine lv_aload_n hx hb dX8_copyFrom_34 rfl (lv_at hl 0 rfl) ?_
  refine va_get (D := D) (ci := 8) (v := .ref q_this_jaw) (C := RX8) (T := TX8) (N := 9) hx hb hts hin_State hown hK hP 0 rfl rfl 3 (by decide) (hts (.fieldLink RX8 9 "GutterSeats$State" "jaw" "[I") (List.mem_cons_of_mem _ (List.mem_append_left _ (List.mem_of_getElem? (i := 3) (by first | rfl | decide +kernel))))) (fun _ h9 => h9) rfl dX8_copyFrom_35 ?_
  refine va_alen hx hb hK hP 1 0 rfl rfl (v := 16) rfl dX8_copyFrom_38 ?_
  refine va_copyi (rest := []) hx hb (by rw [hml]; exact hl.1.symm) hown (hts (.methodLink RX8 40 arraycopyName) (List.mem_cons_of_mem _ (List.mem_append_left _ (List.mem_of_getElem? (i := 4) (by first | rfl | decide +kernel))))) (hts (.native arraycopyName) (List.mem_cons_of_mem _ (List.mem_append_left _ (List.mem_of_getElem? (i := 5) (by first | rfl | decide +kernel))))) (hts (.static arraycopyName) (List.mem_cons_of_mem _ (List.mem_append_left _ (List.mem_of_getElem? (i := 6) (by first | rfl | decide +kernel))))) (hts (.initialized "java/lang/System") (List.mem_cons_of_mem _ (List.mem_append_left _ (List.mem_of_getElem? (i := 7) (by first | rfl | decide +kernel))))) hK hP hD hS 8 1 0 0 rfl rfl rfl rfl rfl (nn_iv (iv_lit (0 : Int32) (by decide) : iv (0 : Int32) 0 0) (by decide)) (nn_iv (iv_lit (0 : Int32) (by decide) : iv (0 : Int32) 0 0) (by decide)) (nn_iv (iv_lit (16 : Int32) (by decide) : iv (16 : Int32) 16 16) (by decide)) (cp_iv (iv_lit (0 : Int32) (by decide) : iv (0 : Int32) 0 0) (iv_lit (16 : Int32) (by decide) : iv (16 : Int32) 16 16) (by decide) (by decide) (by decide)) (cp_iv (iv_lit (0 : Int32) (by decide) : iv (0 : Int32) 0 0) (iv_lit (16 : Int32) (by decide) : iv (16 : Int32) 16 16) (by decide) (by decide) (by decide)) (fun _ _ => rfl) (Nat.le_of_ble_eq_true rfl) (by decide) dX8_copyFrom_39 (fun H locs hP hD hS => ?_)
  obtain ⟨f1, ef1⟩ : ∃ z : Nat → Int32, z = va_cpy f_o_jaw f_this_jaw (0 : Int32).toNatClampNeg (0 : Int32).toNatClampNeg (16 : Int32).toNatClampNeg := ⟨_, rfl⟩
  replace hR := uy_Ls ef1 hR
  rw [← ef1] at hP hD
  have hP : va_P D vwCl [(q_this, .inr (8, [.int x_o_gargoyles, .int x_o_people, .int x_o_year, .ref q_this_jaw, .ref q_this_brow, .ref q_this_stone, .ref q_this_age, .ref q_this_family, .ref q_this_seat])), (q_this_jaw, .inl (ct 0, 16, .inl f1)), (q_this_brow, .inl (ct 0, 16, .inl f_this_brow)), (q_this_stone, .inl (ct 0, 8, .inl f_this_stone)), (q_this_age, .inl (ct 0, 8, .inl f_this_age)), (q_this_family, .inl (ct 0, 8, .inl f_this_family)), (q_this_seat, .inl (ct 0, 8, .inl f_this_seat)), (q_o, .inr (8, [.int x_o_gargoyles, .int x_o_people, .int x_o_year, .ref q_o_jaw, .ref q_o_brow, .ref q_o_stone, .ref q_o_age, .ref q_o_family, .ref q_o_seat])), (q_o_jaw, .inl (ct 0, 16, .inl f_o_jaw)), (q_o_brow, .inl (ct 0, 16, .inl f_o_brow)), (q_o_stone, .inl (ct 0, 8, .inl f_o_stone)), (q_o_age, .inl (ct 0, 8, .inl f_o_age)), (q_o_family, .inl (ct 0, 8, .inl f_o_family)), (q_o_seat, .inl (ct 0, 8, .inl f_o_seat))] H := hP
  have hD : va_D A [(q_this, .inr (8, [.int x_o_gargoyles, .int x_o_people, .int x_o_year, .ref q_this_jaw, .ref q_this_brow, .ref q_this_stone, .ref q_this_age, .ref q_this_family, .ref q_this_seat])), (q_this_jaw, .inl (ct 0, 16, .inl f1)), (q_this_brow, .inl (ct 0, 16, .inl f_this_brow)), (q_this_stone, .inl (ct 0, 8, .inl f_this_stone)), (q_this_age, .inl (ct 0, 8, .inl f_this_age)), (q_this_family, .inl (ct 0, 8, .inl f_this_family)), (q_this_seat, .inl (ct 0, 8, .inl f_this_seat)), (q_o, .inr (8, [.int x_o_gargoyles, .int x_o_people, .int x_o_year, .ref q_o_jaw, .ref q_o_brow, .ref q_o_stone, .ref q_o_age, .ref q_o_family, .ref q_o_seat])), (q_o_jaw, .inl (ct 0, 16, .inl f_o_jaw)), (q_o_brow, .inl (ct 0, 16, .inl f_o_brow)), (q_o_stone, .inl (ct 0, 8, .inl f_o_stone)), (q_o_age, .inl (ct 0, 8, .inl f_o_age)), (q_o_family, .inl (ct 0, 8, .inl f_o_family)), (q_o_seat, .inl (ct 0, 8, .inl f_o_seat))] := hD
  refine lv_aload_n hx hb dX8_copyFrom_42 rfl (lv_at hl 1 rfl) ?_
  refine va_get (D := D) (ci := 8) (v := .ref q_o_brow) (C := RX8) (T := TX8) (N := 9) hx hb hts hin_State hown hK hP 7 rfl rfl 4 (by decide) (hts (.fieldLink RX8 15 "GutterSeats$State" "brow" "[I") (List.mem_cons_of_mem _ (List.mem_append_left _ (List.mem_of_getElem? (i := 8) (by first | rfl | decide +kernel))))) (fun _ h9 => h9) rfl dX8_copyFrom_43 ?_
  refine lv_iconst (v := 0) hx hb dX8_copyFrom_46 (by decide) ?_
  refine lv_aload_n hx hb dX8_copyFrom_47 rfl (lv_at hl 0 rfl) ?_
  refine va_get (D := D) (ci := 8) (v := .ref q_this_brow) (C := RX8) (T := TX8) (N := 9) hx hb hts hin_State hown hK hP 0 rfl rfl 4 (by decide) (hts (.fieldLink RX8 15 "GutterSeats$State" "brow" "[I") (List.mem_cons_of_mem _ (List.mem_append_left _ (List.mem_of_getElem? (i := 8) (by first | rfl | decide +kernel))))) (fun _ h9 => h9) rfl dX8_copyFrom_48 ?_
  refine lv_iconst (v := 0) hx hb dX8_copyFrom_51 (by decide) ?_
  refine lv_aload_n hx hb dX8_copyFrom_52 rfl (lv_at hl 0 rfl) ?_
  refine va_get (D := D) (ci := 8) (v := .ref q_this_brow) (C := RX8) (T := TX8) (N := 9) hx hb hts hin_State hown hK hP 0 rfl rfl 4 (by decide) (hts (.fieldLink RX8 15 "GutterSeats$State" "brow" "[I") (List.mem_cons_of_mem _ (List.mem_append_left _ (List.mem_of_getElem? (i := 8) (by first | rfl | decide +kernel))))) (fun _ h9 => h9) rfl dX8_copyFrom_53 ?_
  refine va_alen hx hb hK hP 2 0 rfl rfl (v := 16) rfl dX8_copyFrom_56 ?_
  refine va_copyi (rest := []) hx hb (by rw [hml]; exact hl.1.symm) hown (hts (.methodLink RX8 40 arraycopyName) (List.mem_cons_of_mem _ (List.mem_append_left _ (List.mem_of_getElem? (i := 4) (by first | rfl | decide +kernel))))) (hts (.native arraycopyName) (List.mem_cons_of_mem _ (List.mem_append_left _ (List.mem_of_getElem? (i := 5) (by first | rfl | decide +kernel))))) (hts (.static arraycopyName) (List.mem_cons_of_mem _ (List.mem_append_left _ (List.mem_of_getElem? (i := 6) (by first | rfl | decide +kernel))))) (hts (.initialized "java/lang/System") (List.mem_cons_of_mem _ (List.mem_append_left _ (List.mem_of_getElem? (i := 7) (by first | rfl | decide +kernel))))) hK hP hD hS 9 2 0 0 rfl rfl rfl rfl rfl (nn_iv (iv_lit (0 : Int32) (by decide) : iv (0 : Int32) 0 0) (by decide)) (nn_iv (iv_lit (0 : Int32) (by decide) : iv (0 : Int32) 0 0) (by decide)) (nn_iv (iv_lit (16 : Int32) (by decide) : iv (16 : Int32) 16 16) (by decide)) (cp_iv (iv_lit (0 : Int32) (by decide) : iv (0 : Int32) 0 0) (iv_lit (16 : Int32) (by decide) : iv (16 : Int32) 16 16) (by decide) (by decide) (by decide)) (cp_iv (iv_lit (0 : Int32) (by decide) : iv (0 : Int32) 0 0) (iv_lit (16 : Int32) (by decide) : iv (16 : Int32) 16 16) (by decide) (by decide) (by decide)) (fun _ _ => rfl) (Nat.le_of_ble_eq_true rfl) (by decide) dX8_copyFrom_57 (fun H locs hP hD hS => ?_)
  obtain ⟨f2, ef2⟩ : ∃ z : Nat → Int32, z = va_cpy f_o_brow f_this_brow (0 : Int32).toNatClampNeg (0 : Int32).toNatClampNeg (16 : Int32).toNatClampNeg := ⟨_, rfl⟩
  replace hR := uy_Ls ef2 hR
  rw [← ef2] at hP hD
  have hP : va_P D vwCl [(q_this, .inr (8, [.int x_o_gargoyles, .int x_o_people, .int x_o_year, .ref q_this_jaw, .ref q_this_brow, .ref q_this_stone, .ref q_this_age, .ref q_this_family, .ref q_this_seat])), (q_this_jaw, .inl (ct 0, 16, .inl f1)), (q_this_brow, .inl (ct 0, 16, .inl f2)), (q_this_stone, .inl (ct 0, 8, .inl f_this_stone)), (q_this_age, .inl (ct 0, 8, .inl f_this_age)), (q_this_family, .inl (ct 0, 8, .inl f_this_family)), (q_this_seat, .inl (ct 0, 8, .inl f_this_seat)), (q_o, .inr (8, [.int x_o_gargoyles, .int x_o_people, .int x_o_year, .ref q_o_jaw, .ref q_o_brow, .ref q_o_stone, .ref q_o_age, .ref q_o_family, .ref q_o_seat])), (q_o_jaw, .inl (ct 0, 16, .inl f_o_jaw)), (q_o_brow, .inl (ct 0, 16, .inl f_o_brow)), (q_o_stone, .inl (ct 0, 8, .inl f_o_stone)), (q_o_age, .inl (ct 0, 8, .inl f_o_age)), (q_o_family, .inl (ct 0, 8, .inl f_o_family)), (q_o_seat, .inl (ct 0, 8, .inl f_o_seat))] H := hP
  have hD : va_D A [(q_this, .inr (8, [.int x_o_gargoyles, .int x_o_people, .int x_o_year, .ref q_this_jaw, .ref q_this_brow, .ref q_this_stone, .ref q_this_age, .ref q_this_family, .ref q_this_seat])), (q_this_jaw, .inl (ct 0, 16, .inl f1)), (q_this_brow, .inl (ct 0, 16, .inl f2)), (q_this_stone, .inl (ct 0, 8, .inl f_this_stone)), (q_this_age, .inl (ct 0, 8, .inl f_this_age)), (q_this_family, .inl (ct 0, 8, .inl f_this_family)), (q_this_seat, .inl (ct 0, 8, .inl f_this_seat)), (q_o, .inr (8, [.int x_o_gargoyles, .int x_o_people, .int x_o_year, .ref q_o_jaw, .ref q_o_brow, .ref q_o_stone, .ref q_o_age, .ref q_o_family, .ref q_o_seat])), (q_o_jaw, .inl (ct 0, 16, .inl f_o_jaw)), (q_o_brow, .inl (ct 0, 16, .inl f_o_brow)), (q_o_stone, .inl (ct 0, 8, .inl f_o_stone)), (q_o_age, .inl (ct 0, 8, .inl f_o_age)), (q_o_family, .inl (ct 0, 8, .inl f_o_family)), (q_o_seat, .inl (ct 0, 8, .inl f_o_seat))] := hD
  refine lv_aload_n hx hb dX8_copyFrom_60 rfl (lv_at hl 1 rfl) ?_
  refine va_get (D := D) (ci := 8) (v := .ref q_o_stone) (C := RX8) (T := TX8) (N := 9) hx hb hts hin_State hown hK hP 7 rfl rfl 5 (by decide) (hts (.fieldLink RX8 18 "GutterSeats$State" "stone" "[I") (List.mem_cons_of_mem _ (List.mem_append_left _ (List.mem_of_getElem? (i := 9) (by first | rfl | decide +kernel))))) (fun _ h9 => h9) rfl dX8_copyFrom_61 ?_
  refine lv_iconst (v := 0) hx hb dX8_copyFrom_64 (by decide) ?_
  refine lv_aload_n hx hb dX8_copyFrom_65 rfl (lv_at hl 0 rfl) ?_
  refine va_get (D := D) (ci := 8) (v := .ref q_this_stone) (C := RX8) (T := TX8) (N := 9) hx hb hts hin_State hown hK hP 0 rfl rfl 5 (by decide) (hts (.fieldLink RX8 18 "GutterSeats$State" "stone" "[I") (List.mem_cons_of_mem _ (List.mem_append_left _ (List.mem_of_getElem? (i := 9) (by first | rfl | decide +kernel))))) (fun _ h9 => h9) rfl dX8_copyFrom_66 ?_
  refine lv_iconst (v := 0) hx hb dX8_copyFrom_69 (by decide) ?_
  refine lv_aload_n hx hb dX8_copyFrom_70 rfl (lv_at hl 0 rfl) ?_
  refine va_get (D := D) (ci := 8) (v := .ref q_this_stone) (C := RX8) (T := TX8) (N := 9) hx hb hts hin_State hown hK hP 0 rfl rfl 5 (by decide) (hts (.fieldLink RX8 18 "GutterSeats$State" "stone" "[I") (List.mem_cons_of_mem _ (List.mem_append_left _ (List.mem_of_getElem? (i := 9) (by first | rfl | decide +kernel))))) (fun _ h9 => h9) rfl dX8_copyFrom_71 ?_
  refine va_alen hx hb hK hP 3 0 rfl rfl (v := 8) rfl dX8_copyFrom_74 ?_
  refine va_copyi (rest := []) hx hb (by rw [hml]; exact hl.1.symm) hown (hts (.methodLink RX8 40 arraycopyName) (List.mem_cons_of_mem _ (List.mem_append_left _ (List.mem_of_getElem? (i := 4) (by first | rfl | decide +kernel))))) (hts (.native arraycopyName) (List.mem_cons_of_mem _ (List.mem_append_left _ (List.mem_of_getElem? (i := 5) (by first | rfl | decide +kernel))))) (hts (.static arraycopyName) (List.mem_cons_of_mem _ (List.mem_append_left _ (List.mem_of_getElem? (i := 6) (by first | rfl | decide +kernel))))) (hts (.initialized "java/lang/System") (List.mem_cons_of_mem _ (List.mem_append_left _ (List.mem_of_getElem? (i := 7) (by first | rfl | decide +kernel))))) hK hP hD hS 10 3 0 0 rfl rfl rfl rfl rfl (nn_iv (iv_lit (0 : Int32) (by decide) : iv (0 : Int32) 0 0) (by decide)) (nn_iv (iv_lit (0 : Int32) (by decide) : iv (0 : Int32) 0 0) (by decide)) (nn_iv (iv_lit (8 : Int32) (by decide) : iv (8 : Int32) 8 8) (by decide)) (cp_iv (iv_lit (0 : Int32) (by decide) : iv (0 : Int32) 0 0) (iv_lit (8 : Int32) (by decide) : iv (8 : Int32) 8 8) (by decide) (by decide) (by decide)) (cp_iv (iv_lit (0 : Int32) (by decide) : iv (0 : Int32) 0 0) (iv_lit (8 : Int32) (by decide) : iv (8 : Int32) 8 8) (by decide) (by decide) (by decide)) (fun _ _ => rfl) (Nat.le_of_ble_eq_true rfl) (by decide) dX8_copyFrom_75 (fun H locs hP hD hS => ?_)
  obtain ⟨f3, ef3⟩ : ∃ z : Nat → Int32, z = va_cpy f_o_stone f_this_stone (0 : Int32).toNatClampNeg (0 : Int32).toNatClampNeg (8 : Int32).toNatClampNeg := ⟨_, rfl⟩
  replace hR := uy_Ls ef3 hR
  rw [← ef3] at hP hD
  have hP : va_P D vwCl [(q_this, .inr (8, [.int x_o_gargoyles, .int x_o_people, .int x_o_year, .ref q_this_jaw, .ref q_this_brow, .ref q_this_stone, .ref q_this_age, .ref q_this_family, .ref q_this_seat])), (q_this_jaw, .inl (ct 0, 16, .inl f1)), (q_this_brow, .inl (ct 0, 16, .inl f2)), (q_this_stone, .inl (ct 0, 8, .inl f3)), (q_this_age, .inl (ct 0, 8, .inl f_this_age)), (q_this_family, .inl (ct 0, 8, .inl f_this_family)), (q_this_seat, .inl (ct 0, 8, .inl f_this_seat)), (q_o, .inr (8, [.int x_o_gargoyles, .int x_o_people, .int x_o_year, .ref q_o_jaw, .ref q_o_brow, .ref q_o_stone, .ref q_o_age, .ref q_o_family, .ref q_o_seat])), (q_o_jaw, .inl (ct 0, 16, .inl f_o_jaw)), (q_o_brow, .inl (ct 0, 16, .inl f_o_brow)), (q_o_stone, .inl (ct 0, 8, .inl f_o_stone)), (q_o_age, .inl (ct 0, 8, .inl f_o_age)), (q_o_family, .inl (ct 0, 8, .inl f_o_family)), (q_o_seat, .inl (ct 0, 8, .inl f_o_seat))] H := hP
  have hD : va_D A [(q_this, .inr (8, [.int x_o_gargoyles, .int x_o_people, .int x_o_year, .ref q_this_jaw, .ref q_this_brow, .ref q_this_stone, .ref q_this_age, .ref q_this_family, .ref q_this_seat])), (q_this_jaw, .inl (ct 0, 16, .inl f1)), (q_this_brow, .inl (ct 0, 16, .inl f2)), (q_this_stone, .inl (ct 0, 8, .inl f3)), (q_this_age, .inl (ct 0, 8, .inl f_this_age)), (q_this_family, .inl (ct 0, 8, .inl f_this_family)), (q_this_seat, .inl (ct 0, 8, .inl f_this_seat)), (q_o, .inr (8, [.int x_o_gargoyles, .int x_o_people, .int x_o_year, .ref q_o_jaw, .ref q_o_brow, .ref q_o_stone, .ref q_o_age, .ref q_o_family, .ref q_o_seat])), (q_o_jaw, .inl (ct 0, 16, .inl f_o_jaw)), (q_o_brow, .inl (ct 0, 16, .inl f_o_brow)), (q_o_stone, .inl (ct 0, 8, .inl f_o_stone)), (q_o_age, .inl (ct 0, 8, .inl f_o_age)), (q_o_family, .inl (ct 0, 8, .inl f_o_family)), (q_o_seat, .inl (ct 0, 8, .inl f_o_seat))] := hD
  refine lv_aload_n hx hb dX8_copyFrom_78 rfl (lv_at hl 1 rfl) ?_
  refine va_get (D := D) (ci := 8) (v := .ref q_o_age) (C := RX8) (T := TX8) (N := 9) hx hb hts hin_State hown hK hP 7 rfl rfl 6 (by decide) (hts (.fieldLink RX8 21 "GutterSeats$State" "age" "[I") (List.mem_cons_of_mem _ (List.mem_append_left _ (List.mem_of_getElem? (i := 10) (by first | rfl | decide +kernel))))) (fun _ h9 => h9) rfl dX8_copyFrom_79 ?_
  refine lv_iconst (v := 0) hx hb dX8_copyFrom_82 (by decide) ?_
  refine lv_aload_n hx hb dX8_copyFrom_83 rfl (lv_at hl 0 rfl) ?_
  refine va_get (D := D) (ci := 8) (v := .ref q_this_age) (C := RX8) (T := TX8) (N := 9) hx hb hts hin_State hown hK hP 0 rfl rfl 6 (by decide) (hts (.fieldLink RX8 21 "GutterSeats$State" "age" "[I") (List.mem_cons_of_mem _ (List.mem_append_left _ (List.mem_of_getElem? (i := 10) (by first | rfl | decide +kernel))))) (fun _ h9 => h9) rfl dX8_copyFrom_84 ?_
  refine lv_iconst (v := 0) hx hb dX8_copyFrom_87 (by decide) ?_
  refine lv_aload_n hx hb dX8_copyFrom_88 rfl (lv_at hl 0 rfl) ?_
  refine va_get (D := D) (ci := 8) (v := .ref q_this_age) (C := RX8) (T := TX8) (N := 9) hx hb hts hin_State hown hK hP 0 rfl rfl 6 (by decide) (hts (.fieldLink RX8 21 "GutterSeats$State" "age" "[I") (List.mem_cons_of_mem _ (List.mem_append_left _ (List.mem_of_getElem? (i := 10) (by first | rfl | decide +kernel))))) (fun _ h9 => h9) rfl dX8_copyFrom_89 ?_
  refine va_alen hx hb hK hP 4 0 rfl rfl (v := 8) rfl dX8_copyFrom_92 ?_
  refine va_copyi (rest := []) hx hb (by rw [hml]; exact hl.1.symm) hown (hts (.methodLink RX8 40 arraycopyName) (List.mem_cons_of_mem _ (List.mem_append_left _ (List.mem_of_getElem? (i := 4) (by first | rfl | decide +kernel))))) (hts (.native arraycopyName) (List.mem_cons_of_mem _ (List.mem_append_left _ (List.mem_of_getElem? (i := 5) (by first | rfl | decide +kernel))))) (hts (.static arraycopyName) (List.mem_cons_of_mem _ (List.mem_append_left _ (List.mem_of_getElem? (i := 6) (by first | rfl | decide +kernel))))) (hts (.initialized "java/lang/System") (List.mem_cons_of_mem _ (List.mem_append_left _ (List.mem_of_getElem? (i := 7) (by first | rfl | decide +kernel))))) hK hP hD hS 11 4 0 0 rfl rfl rfl rfl rfl (nn_iv (iv_lit (0 : Int32) (by decide) : iv (0 : Int32) 0 0) (by decide)) (nn_iv (iv_lit (0 : Int32) (by decide) : iv (0 : Int32) 0 0) (by decide)) (nn_iv (iv_lit (8 : Int32) (by decide) : iv (8 : Int32) 8 8) (by decide)) (cp_iv (iv_lit (0 : Int32) (by decide) : iv (0 : Int32) 0 0) (iv_lit (8 : Int32) (by decide) : iv (8 : Int32) 8 8) (by decide) (by decide) (by decide)) (cp_iv (iv_lit (0 : Int32) (by decide) : iv (0 : Int32) 0 0) (iv_lit (8 : Int32) (by decide) : iv (8 : Int32) 8 8) (by decide) (by decide) (by decide)) (fun _ _ => rfl) (Nat.le_of_ble_eq_true rfl) (by decide) dX8_copyFrom_93 (fun H locs hP hD hS => ?_)
  obtain ⟨f4, ef4⟩ : ∃ z : Nat → Int32, z = va_cpy f_o_age f_this_age (0 : Int32).toNatClampNeg (0 : Int32).toNatClampNeg (8 : Int32).toNatClampNeg := ⟨_, rfl⟩
  replace hR := uy_Ls ef4 hR
  rw [← ef4] at hP hD
  have hP : va_P D vwCl [(q_this, .inr (8, [.int x_o_gargoyles, .int x_o_people, .int x_o_year, .ref q_this_jaw, .ref q_this_brow, .ref q_this_stone, .ref q_this_age, .ref q_this_family, .ref q_this_seat])), (q_this_jaw, .inl (ct 0, 16, .inl f1)), (q_this_brow, .inl (ct 0, 16, .inl f2)), (q_this_stone, .inl (ct 0, 8, .inl f3)), (q_this_age, .inl (ct 0, 8, .inl f4)), (q_this_family, .inl (ct 0, 8, .inl f_this_family)), (q_this_seat, .inl (ct 0, 8, .inl f_this_seat)), (q_o, .inr (8, [.int x_o_gargoyles, .int x_o_people, .int x_o_year, .ref q_o_jaw, .ref q_o_brow, .ref q_o_stone, .ref q_o_age, .ref q_o_family, .ref q_o_seat])), (q_o_jaw, .inl (ct 0, 16, .inl f_o_jaw)), (q_o_brow, .inl (ct 0, 16, .inl f_o_brow)), (q_o_stone, .inl (ct 0, 8, .inl f_o_stone)), (q_o_age, .inl (ct 0, 8, .inl f_o_age)), (q_o_family, .inl (ct 0, 8, .inl f_o_family)), (q_o_seat, .inl (ct 0, 8, .inl f_o_seat))] H := hP
  have hD : va_D A [(q_this, .inr (8, [.int x_o_gargoyles, .int x_o_people, .int x_o_year, .ref q_this_jaw, .ref q_this_brow, .ref q_this_stone, .ref q_this_age, .ref q_this_family, .ref q_this_seat])), (q_this_jaw, .inl (ct 0, 16, .inl f1)), (q_this_brow, .inl (ct 0, 16, .inl f2)), (q_this_stone, .inl (ct 0, 8, .inl f3)), (q_this_age, .inl (ct 0, 8, .inl f4)), (q_this_family, .inl (ct 0, 8, .inl f_this_family)), (q_this_seat, .inl (ct 0, 8, .inl f_this_seat)), (q_o, .inr (8, [.int x_o_gargoyles, .int x_o_people, .int x_o_year, .ref q_o_jaw, .ref q_o_brow, .ref q_o_stone, .ref q_o_age, .ref q_o_family, .ref q_o_seat])), (q_o_jaw, .inl (ct 0, 16, .inl f_o_jaw)), (q_o_brow, .inl (ct 0, 16, .inl f_o_brow)), (q_o_stone, .inl (ct 0, 8, .inl f_o_stone)), (q_o_age, .inl (ct 0, 8, .inl f_o_age)), (q_o_family, .inl (ct 0, 8, .inl f_o_family)), (q_o_seat, .inl (ct 0, 8, .inl f_o_seat))] := hD
  refine lv_aload_n hx hb dX8_copyFrom_96 rfl (lv_at hl 1 rfl) ?_
  refine va_get (D := D) (ci := 8) (v := .ref q_o_family) (C := RX8) (T := TX8) (N := 9) hx hb hts hin_State hown hK hP 7 rfl rfl 7 (by decide) (hts (.fieldLink RX8 24 "GutterSeats$State" "family" "[I") (List.mem_cons_of_mem _ (List.mem_append_left _ (List.mem_of_getElem? (i := 11) (by first | rfl | decide +kernel))))) (fun _ h9 => h9) rfl dX8_copyFrom_97 ?_
  refine lv_iconst (v := 0) hx hb dX8_copyFrom_100 (by decide) ?_
  refine lv_aload_n hx hb dX8_copyFrom_101 rfl (lv_at hl 0 rfl) ?_
  refine va_get (D := D) (ci := 8) (v := .ref q_this_family) (C := RX8) (T := TX8) (N := 9) hx hb hts hin_State hown hK hP 0 rfl rfl 7 (by decide) (hts (.fieldLink RX8 24 "GutterSeats$State" "family" "[I") (List.mem_cons_of_mem _ (List.mem_append_left _ (List.mem_of_getElem? (i := 11) (by first | rfl | decide +kernel))))) (fun _ h9 => h9) rfl dX8_copyFrom_102 ?_
  refine lv_iconst (v := 0) hx hb dX8_copyFrom_105 (by decide) ?_
  refine lv_aload_n hx hb dX8_copyFrom_106 rfl (lv_at hl 0 rfl) ?_
  refine va_get (D := D) (ci := 8) (v := .ref q_this_family) (C := RX8) (T := TX8) (N := 9) hx hb hts hin_State hown hK hP 0 rfl rfl 7 (by decide) (hts (.fieldLink RX8 24 "GutterSeats$State" "family" "[I") (List.mem_cons_of_mem _ (List.mem_append_left _ (List.mem_of_getElem? (i := 11) (by first | rfl | decide +kernel))))) (fun _ h9 => h9) rfl dX8_copyFrom_107 ?_
  refine va_alen hx hb hK hP 5 0 rfl rfl (v := 8) rfl dX8_copyFrom_110 ?_
  refine va_copyi (rest := []) hx hb (by rw [hml]; exact hl.1.symm) hown (hts (.methodLink RX8 40 arraycopyName) (List.mem_cons_of_mem _ (List.mem_append_left _ (List.mem_of_getElem? (i := 4) (by first | rfl | decide +kernel))))) (hts (.native arraycopyName) (List.mem_cons_of_mem _ (List.mem_append_left _ (List.mem_of_getElem? (i := 5) (by first | rfl | decide +kernel))))) (hts (.static arraycopyName) (List.mem_cons_of_mem _ (List.mem_append_left _ (List.mem_of_getElem? (i := 6) (by first | rfl | decide +kernel))))) (hts (.initialized "java/lang/System") (List.mem_cons_of_mem _ (List.mem_append_left _ (List.mem_of_getElem? (i := 7) (by first | rfl | decide +kernel))))) hK hP hD hS 12 5 0 0 rfl rfl rfl rfl rfl (nn_iv (iv_lit (0 : Int32) (by decide) : iv (0 : Int32) 0 0) (by decide)) (nn_iv (iv_lit (0 : Int32) (by decide) : iv (0 : Int32) 0 0) (by decide)) (nn_iv (iv_lit (8 : Int32) (by decide) : iv (8 : Int32) 8 8) (by decide)) (cp_iv (iv_lit (0 : Int32) (by decide) : iv (0 : Int32) 0 0) (iv_lit (8 : Int32) (by decide) : iv (8 : Int32) 8 8) (by decide) (by decide) (by decide)) (cp_iv (iv_lit (0 : Int32) (by decide) : iv (0 : Int32) 0 0) (iv_lit (8 : Int32) (by decide) : iv (8 : Int32) 8 8) (by decide) (by decide) (by decide)) (fun _ _ => rfl) (Nat.le_of_ble_eq_true rfl) (by decide) dX8_copyFrom_111 (fun H locs hP hD hS => ?_)
  obtain ⟨f5, ef5⟩ : ∃ z : Nat → Int32, z = va_cpy f_o_family f_this_family (0 : Int32).toNatClampNeg (0 : Int32).toNatClampNeg (8 : Int32).toNatClampNeg := ⟨_, rfl⟩
  replace hR := uy_Ls ef5 hR
  rw [← ef5] at hP hD
  have hP : va_P D vwCl [(q_this, .inr (8, [.int x_o_gargoyles, .int x_o_people, .int x_o_year, .ref q_this_jaw, .ref q_this_brow, .ref q_this_stone, .ref q_this_age, .ref q_this_family, .ref q_this_seat])), (q_this_jaw, .inl (ct 0, 16, .inl f1)), (q_this_brow, .inl (ct 0, 16, .inl f2)), (q_this_stone, .inl (ct 0, 8, .inl f3)), (q_this_age, .inl (ct 0, 8, .inl f4)), (q_this_family, .inl (ct 0, 8, .inl f5)), (q_this_seat, .inl (ct 0, 8, .inl f_this_seat)), (q_o, .inr (8, [.int x_o_gargoyles, .int x_o_people, .int x_o_year, .ref q_o_jaw, .ref q_o_brow, .ref q_o_stone, .ref q_o_age, .ref q_o_family, .ref q_o_seat])), (q_o_jaw, .inl (ct 0, 16, .inl f_o_jaw)), (q_o_brow, .inl (ct 0, 16, .inl f_o_brow)), (q_o_stone, .inl (ct 0, 8, .inl f_o_stone)), (q_o_age, .inl (ct 0, 8, .inl f_o_age)), (q_o_family, .inl (ct 0, 8, .inl f_o_family)), (q_o_seat, .inl (ct 0, 8, .inl f_o_seat))] H := hP
  have hD : va_D A [(q_this, .inr (8, [.int x_o_gargoyles, .int x_o_people, .int x_o_year, .ref q_this_jaw, .ref q_this_brow, .ref q_this_stone, .ref q_this_age, .ref q_this_family, .ref q_this_seat])), (q_this_jaw, .inl (ct 0, 16, .inl f1)), (q_this_brow, .inl (ct 0, 16, .inl f2)), (q_this_stone, .inl (ct 0, 8, .inl f3)), (q_this_age, .inl (ct 0, 8, .inl f4)), (q_this_family, .inl (ct 0, 8, .inl f5)), (q_this_seat, .inl (ct 0, 8, .inl f_this_seat)), (q_o, .inr (8, [.int x_o_gargoyles, .int x_o_people, .int x_o_year, .ref q_o_jaw, .ref q_o_brow, .ref q_o_stone, .ref q_o_age, .ref q_o_family, .ref q_o_seat])), (q_o_jaw, .inl (ct 0, 16, .inl f_o_jaw)), (q_o_brow, .inl (ct 0, 16, .inl f_o_brow)), (q_o_stone, .inl (ct 0, 8, .inl f_o_stone)), (q_o_age, .inl (ct 0, 8, .inl f_o_age)), (q_o_family, .inl (ct 0, 8, .inl f_o_family)), (q_o_seat, .inl (ct 0, 8, .inl f_o_seat))] := hD
  refine lv_aload_n hx hb dX8_copyFrom_114 rfl (lv_at hl 1 rfl) ?_
  refine va_get (D := D) (ci := 8) (v := .ref q_o_seat) (C := RX8) (T := TX8) (N := 9) hx hb hts hin_State hown hK hP 7 rfl rfl 8 (by decide) (hts (.fieldLink RX8 27 "GutterSeats$State" "seat" "[I") (List.mem_cons_of_mem _ (List.mem_append_left _ (List.mem_of_getElem? (i := 12) (by first | rfl | decide +kernel))))) (fun _ h9 => h9) rfl dX8_copyFrom_115 ?_
  refine lv_iconst (v := 0) hx hb dX8_copyFrom_118 (by decide) ?_
  refine lv_aload_n hx hb dX8_copyFrom_119 rfl (lv_at hl 0 rfl) ?_
  refine va_get (D := D) (ci := 8) (v := .ref q_this_seat) (C := RX8) (T := TX8) (N := 9) hx hb hts hin_State hown hK hP 0 rfl rfl 8 (by decide) (hts (.fieldLink RX8 27 "GutterSeats$State" "seat" "[I") (List.mem_cons_of_mem _ (List.mem_append_left _ (List.mem_of_getElem? (i := 12) (by first | rfl | decide +kernel))))) (fun _ h9 => h9) rfl dX8_copyFrom_120 ?_
  refine lv_iconst (v := 0) hx hb dX8_copyFrom_123 (by decide) ?_
  refine lv_aload_n hx hb dX8_copyFrom_124 rfl (lv_at hl 0 rfl) ?_
  refine va_get (D := D) (ci := 8) (v := .ref q_this_seat) (C := RX8) (T := TX8) (N := 9) hx hb hts hin_State hown hK hP 0 rfl rfl 8 (by decide) (hts (.fieldLink RX8 27 "GutterSeats$State" "seat" "[I") (List.mem_cons_of_mem _ (List.mem_append_left _ (List.mem_of_getElem? (i := 12) (by first | rfl | decide +kernel))))) (fun _ h9 => h9) rfl dX8_copyFrom_125 ?_
  refine va_alen hx hb hK hP 6 0 rfl rfl (v := 8) rfl dX8_copyFrom_128 ?_
  refine va_copyi (rest := []) hx hb (by rw [hml]; exact hl.1.symm) hown (hts (.methodLink RX8 40 arraycopyName) (List.mem_cons_of_mem _ (List.mem_append_left _ (List.mem_of_getElem? (i := 4) (by first | rfl | decide +kernel))))) (hts (.native arraycopyName) (List.mem_cons_of_mem _ (List.mem_append_left _ (List.mem_of_getElem? (i := 5) (by first | rfl | decide +kernel))))) (hts (.static arraycopyName) (List.mem_cons_of_mem _ (List.mem_append_left _ (List.mem_of_getElem? (i := 6) (by first | rfl | decide +kernel))))) (hts (.initialized "java/lang/System") (List.mem_cons_of_mem _ (List.mem_append_left _ (List.mem_of_getElem? (i := 7) (by first | rfl | decide +kernel))))) hK hP hD hS 13 6 0 0 rfl rfl rfl rfl rfl (nn_iv (iv_lit (0 : Int32) (by decide) : iv (0 : Int32) 0 0) (by decide)) (nn_iv (iv_lit (0 : Int32) (by decide) : iv (0 : Int32) 0 0) (by decide)) (nn_iv (iv_lit (8 : Int32) (by decide) : iv (8 : Int32) 8 8) (by decide)) (cp_iv (iv_lit (0 : Int32) (by decide) : iv (0 : Int32) 0 0) (iv_lit (8 : Int32) (by decide) : iv (8 : Int32) 8 8) (by decide) (by decide) (by decide)) (cp_iv (iv_lit (0 : Int32) (by decide) : iv (0 : Int32) 0 0) (iv_lit (8 : Int32) (by decide) : iv (8 : Int32) 8 8) (by decide) (by decide) (by decide)) (fun _ _ => rfl) (Nat.le_of_ble_eq_true rfl) (by decide) dX8_copyFrom_129 (fun H locs hP hD hS => ?_)
  obtain ⟨f6, ef6⟩ : ∃ z : Nat → Int32, z = va_cpy f_o_seat f_this_seat (0 : Int32).toNatClampNeg (0 : Int32).toNatClampNeg (8 : Int32).toNatClampNeg := ⟨_, rfl⟩
  replace hR := uy_Ls ef6 hR
  rw [← ef6] at hP hD
  have hP : va_P D vwCl [(q_this, .inr (8, [.int x_o_gargoyles, .int x_o_people, .int x_o_year, .ref q_this_jaw, .ref q_this_brow, .ref q_this_stone, .ref q_this_age, .ref q_this_family, .ref q_this_seat])), (q_this_jaw, .inl (ct 0, 16, .inl f1)), (q_this_brow, .inl (ct 0, 16, .inl f2)), (q_this_stone, .inl (ct 0, 8, .inl f3)), (q_this_age, .inl (ct 0, 8, .inl f4)), (q_this_family, .inl (ct 0, 8, .inl f5)), (q_this_seat, .inl (ct 0, 8, .inl f6)), (q_o, .inr (8, [.int x_o_gargoyles, .int x_o_people, .int x_o_year, .ref q_o_jaw, .ref q_o_brow, .ref q_o_stone, .ref q_o_age, .ref q_o_family, .ref q_o_seat])), (q_o_jaw, .inl (ct 0, 16, .inl f_o_jaw)), (q_o_brow, .inl (ct 0, 16, .inl f_o_brow)), (q_o_stone, .inl (ct 0, 8, .inl f_o_stone)), (q_o_age, .inl (ct 0, 8, .inl f_o_age)), (q_o_family, .inl (ct 0, 8, .inl f_o_family)), (q_o_seat, .inl (ct 0, 8, .inl f_o_seat))] H := hP
  have hD : va_D A [(q_this, .inr (8, [.int x_o_gargoyles, .int x_o_people, .int x_o_year, .ref q_this_jaw, .ref q_this_brow, .ref q_this_stone, .ref q_this_age, .ref q_this_family, .ref q_this_seat])), (q_this_jaw, .inl (ct 0, 16, .inl f1)), (q_this_brow, .inl (ct 0, 16, .inl f2)), (q_this_stone, .inl (ct 0, 8, .inl f3)), (q_this_age, .inl (ct 0, 8, .inl f4)), (q_this_family, .inl (ct 0, 8, .inl f5)), (q_this_seat, .inl (ct 0, 8, .inl f6)), (q_o, .inr (8, [.int x_o_gargoyles, .int x_o_people, .int x_o_year, .ref q_o_jaw, .ref q_o_brow, .ref q_o_stone, .ref q_o_age, .ref q_o_family, .ref q_o_seat])), (q_o_jaw, .inl (ct 0, 16, .inl f_o_jaw)), (q_o_brow, .inl (ct 0, 16, .inl f_o_brow)), (q_o_stone, .inl (ct 0, 8, .inl f_o_stone)), (q_o_age, .inl (ct 0, 8, .inl f_o_age)), (q_o_family, .inl (ct 0, 8, .inl f_o_family)), (q_o_seat, .inl (ct 0, 8, .inl f_o_seat))] := hD
  have a_f6 : av f6 8 (-1) 7 := by rw [ef6]; exact av_cpy (n1 := 8) (av_w a_f_o_seat (by decide) (by decide) (by decide)) (av_w a_f_this_seat (by decide) (by decide) (by decide)) (cp_iv (iv_lit (0 : Int32) (by decide) : iv (0 : Int32) 0 0) (iv_lit (8 : Int32) (by decide) : iv (8 : Int32) 8 8) (by decide) (by decide) (by decide))
  exact hE (x_o_gargoyles, x_o_people, x_o_year, f1, f2, f3, f4, f5, f6) _ _ _ _ ⟨i_x_o_gargoyles, i_x_o_people, i_x_o_year, a_f6, (show x_o_gargoyles = x_o_gargoyles from rfl), (show x_o_people = x_o_people from rfl), (show x_o_year = x_o_year from rfl), (show ∀ k : Nat, k < 16 → f1 k = f_o_jaw k from (fun k hk => by rw [ef1]; exact sb_cpy0 hk)), (show ∀ k : Nat, k < 16 → f2 k = f_o_brow k from (fun k hk => by rw [ef2]; exact sb_cpy0 hk)), (show ∀ k : Nat, k < 8 → f3 k = f_o_stone k from (fun k hk => by rw [ef3]; exact sb_cpy0 hk)), (show ∀ k : Nat, k < 8 → f4 k = f_o_age k from (fun k hk => by rw [ef4]; exact sb_cpy0 hk)), (show ∀ k : Nat, k < 8 → f5 k = f_o_family k from (fun k hk => by rw [ef5]; exact sb_cpy0 hk)), (show ∀ k : Nat, k < 8 → f6 k = f_o_seat k from (fun k hk => by rw [ef6]; exact sb_cpy0 hk)), ((uy_Q0 hR).symm.trans hRe)⟩ hP hD hS dX8_copyFrom_132
abbrev rm_State_unlikeness : Room := { frames := 1, cells := 0, slots := 0, locals := 21 }
set_option maxHeartbeats 4000000 in
set_option maxRecDepth 100000 in
theorem c_State_unlikeness (l : Launch) (D : va_G) (ct : Nat → ClassId) (q_this q_this_jaw q_this_brow q_this_stone q_this_age q_this_family q_this_seat : Nat) (x_this_gargoyles x_this_people x_this_year : Int32) (f_this_jaw f_this_brow f_this_stone f_this_age f_this_family f_this_seat : Nat → Int32) (p1 p2 : Int32) (i_x_this_gargoyles : iv x_this_gargoyles 0 8) (i_x_this_people : iv x_this_people 0 8) (i_x_this_year : iv x_this_year 0 5000) (a_f_this_seat : av f_this_seat 8 (-1) 7) (i_p1 : iv p1 0 15) (i_p2 : iv p2 0 15) : cP l yX8_unlikeness wsX8_unlikeness rm_State_unlikeness D ct [(q_this, .inr (8, [.int x_this_gargoyles, .int x_this_people, .int x_this_year, .ref q_this_jaw, .ref q_this_brow, .ref q_this_stone, .ref q_this_age, .ref q_this_family, .ref q_this_seat])), (q_this_jaw, .inl (ct 0, 16, .inl f_this_jaw)), (q_this_brow, .inl (ct 0, 16, .inl f_this_brow)), (q_this_stone, .inl (ct 0, 8, .inl f_this_stone)), (q_this_age, .inl (ct 0, 8, .inl f_this_age)), (q_this_family, .inl (ct 0, 8, .inl f_this_family)), (q_this_seat, .inl (ct 0, 8, .inl f_this_seat))] [.ref q_this, .int p1, .int p2] (fun r : Int32 => r = m_State_unlikeness f_this_jaw f_this_brow p1 p2) := by
  refine cP_of (cc := cX8_unlikeness) (maxL := 3) (by decide) rfl (Nat.le_of_ble_eq_true rfl) ?_
  intro p e s m args below meth c Q hx hb hml hts hown hK hP hE ls hl
  have hl : lv_has ls 3 [(0, .ref q_this), (1, .int p1), (2, .int p2)] := hl
  obtain ⟨R, hRe⟩ : ∃ R : (Int32), R = m_State_unlikeness f_this_jaw f_this_brow p1 p2 := ⟨_, rfl⟩
  have hR : uy_Q R (fun z : (Int32) => z) (m_State_unlikeness f_this_jaw f_this_brow p1 p2) := hRe
  have hin_State : ∀ w ∈ u_ws RX8 TX8 9, w ∈ wsX8_unlikeness := fun w h => List.mem_cons_of_mem _ (List.mem_append_right _ (h))
  delta m_State_unlikeness at hR
  refine lv_aload_n hx hb dX8_unlikeness_0 rfl (lv_at hl 0 rfl) ?_
  refine va_get (D := D) (ci := 8) (v := .ref q_this_jaw) (C := RX8) (T := TX8) (N := 9) hx hb hts hin_State hown hK hP 0 rfl rfl 3 (by decide) (hts (.fieldLink RX8 9 "GutterSeats$State" "jaw" "[I") (List.mem_cons_of_mem _ (List.mem_append_left _ (List.mem_of_getElem? (i := 0) (by first | rfl | decide +kernel))))) (fun _ h9 => h9) rfl dX8_unlikeness_1 ?_
  refine lv_iload_n hx hb dX8_unlikeness_4 rfl (lv_at hl 1 rfl) ?_
  have n1 : vp_in p1 16 := iv_in i_p1 (by decide) (by decide)
  refine va_iald hx hb hK hP 1 0 rfl rfl n1 dX8_unlikeness_5 ?_
  refine lv_topi (fun x2 ex2 => ?_)
  replace hR := uy_Ls ex2 hR
  refine lv_aload_n hx hb dX8_unlikeness_6 rfl (lv_at hl 0 rfl) ?_
  refine va_get (D := D) (ci := 8) (v := .ref q_this_jaw) (C := RX8) (T := TX8) (N := 9) hx hb hts hin_State hown hK hP 0 rfl rfl 3 (by decide) (hts (.fieldLink RX8 9 "GutterSeats$State" "jaw" "[I") (List.mem_cons_of_mem _ (List.mem_append_left _ (List.mem_of_getElem? (i := 0) (by first | rfl | decide +kernel))))) (fun _ h9 => h9) rfl dX8_unlikeness_7 ?_
  refine lv_iload_n hx hb dX8_unlikeness_10 rfl (lv_at hl 2 rfl) ?_
  have n3 : vp_in p2 16 := iv_in i_p2 (by decide) (by decide)
  refine va_iald hx hb hK hP 1 0 rfl rfl n3 dX8_unlikeness_11 ?_
  refine lv_topi (fun x4 ex4 => ?_)
  replace hR := uy_Ls ex4 hR
  refine lv_isub hx hb dX8_unlikeness_12 ?_
  refine lv_topi (fun x5 ex5 => ?_)
  replace hR := uy_Ls ex5 hR
  refine va_mabs hx hb (by rw [hml]; exact hl.1.symm) hown (hts (.methodLink RX8 46 Lib.Math.abs.name) (List.mem_cons_of_mem _ (List.mem_append_left _ (List.mem_of_getElem? (i := 1) (by first | rfl | decide +kernel))))) (hts (.static Lib.Math.abs.name) (List.mem_cons_of_mem _ (List.mem_append_left _ (List.mem_of_getElem? (i := 2) (by first | rfl | decide +kernel))))) (hts (.initialized "java/lang/Math") (List.mem_cons_of_mem _ (List.mem_append_left _ (List.mem_of_getElem? (i := 3) (by first | rfl | decide +kernel))))) (hts (.code Lib.Math.abs.name Lib.Math.abs.code 1 (some .int)) (List.mem_cons_of_mem _ (List.mem_append_left _ (List.mem_of_getElem? (i := 4) (by first | rfl | decide +kernel))))) (Nat.le_of_ble_eq_true rfl) (Nat.le_of_ble_eq_true rfl) (Nat.le_of_ble_eq_true rfl) (Nat.le_of_ble_eq_true rfl) dX8_unlikeness_13 ?_
  refine lv_topi (fun x6 ex6 => ?_)
  replace hR := uy_Ls ex6 hR
  refine lv_aload_n hx hb dX8_unlikeness_16 rfl (lv_at hl 0 rfl) ?_
  refine va_get (D := D) (ci := 8) (v := .ref q_this_brow) (C := RX8) (T := TX8) (N := 9) hx hb hts hin_State hown hK hP 0 rfl rfl 4 (by decide) (hts (.fieldLink RX8 15 "GutterSeats$State" "brow" "[I") (List.mem_cons_of_mem _ (List.mem_append_left _ (List.mem_of_getElem? (i := 5) (by first | rfl | decide +kernel))))) (fun _ h9 => h9) rfl dX8_unlikeness_17 ?_
  refine lv_iload_n hx hb dX8_unlikeness_20 rfl (lv_at hl 1 rfl) ?_
  have n7 : vp_in p1 16 := iv_in i_p1 (by decide) (by decide)
  refine va_iald hx hb hK hP 2 0 rfl rfl n7 dX8_unlikeness_21 ?_
  refine lv_topi (fun x8 ex8 => ?_)
  replace hR := uy_Ls ex8 hR
  refine lv_aload_n hx hb dX8_unlikeness_22 rfl (lv_at hl 0 rfl) ?_
  refine va_get (D := D) (ci := 8) (v := .ref q_this_brow) (C := RX8) (T := TX8) (N := 9) hx hb hts hin_State hown hK hP 0 rfl rfl 4 (by decide) (hts (.fieldLink RX8 15 "GutterSeats$State" "brow" "[I") (List.mem_cons_of_mem _ (List.mem_append_left _ (List.mem_of_getElem? (i := 5) (by first | rfl | decide +kernel))))) (fun _ h9 => h9) rfl dX8_unlikeness_23 ?_
  refine lv_iload_n hx hb dX8_unlikeness_26 rfl (lv_at hl 2 rfl) ?_
  have n9 : vp_in p2 16 := iv_in i_p2 (by decide) (by decide)
  refine va_iald hx hb hK hP 2 0 rfl rfl n9 dX8_unlikeness_27 ?_
  refine lv_topi (fun x10 ex10 => ?_)
  replace hR := uy_Ls ex10 hR
  refine lv_isub hx hb dX8_unlikeness_28 ?_
  refine lv_topi (fun x11 ex11 => ?_)
  replace hR := uy_Ls ex11 hR
  refine va_mabs hx hb (by rw [hml]; exact hl.1.symm) hown (hts (.methodLink RX8 46 Lib.Math.abs.name) (List.mem_cons_of_mem _ (List.mem_append_left _ (List.mem_of_getElem? (i := 1) (by first | rfl | decide +kernel))))) (hts (.static Lib.Math.abs.name) (List.mem_cons_of_mem _ (List.mem_append_left _ (List.mem_of_getElem? (i := 2) (by first | rfl | decide +kernel))))) (hts (.initialized "java/lang/Math") (List.mem_cons_of_mem _ (List.mem_append_left _ (List.mem_of_getElem? (i := 3) (by first | rfl | decide +kernel))))) (hts (.code Lib.Math.abs.name Lib.Math.abs.code 1 (some .int)) (List.mem_cons_of_mem _ (List.mem_append_left _ (List.mem_of_getElem? (i := 4) (by first | rfl | decide +kernel))))) (Nat.le_of_ble_eq_true rfl) (Nat.le_of_ble_eq_true rfl) (Nat.le_of_ble_eq_true rfl) (Nat.le_of_ble_eq_true rfl) dX8_unlikeness_29 ?_
  refine lv_topi (fun x12 ex12 => ?_)
  replace hR := uy_Ls ex12 hR
  refine lv_iadd hx hb dX8_unlikeness_32 ?_
  refine lv_topi (fun x13 ex13 => ?_)
  replace hR := uy_Ls ex13 hR
  exact hE _ _ _ ((uy_Q0 hR).symm.trans hRe) dX8_unlikeness_33
abbrev rm_State_closest : Room := { frames := 2, cells := 0, slots := 0, locals := 43 }
set_option maxHeartbeats 4000000 in
set_option maxRecDepth 100000 in
theorem c_State_closest (l : Launch) (D : va_G) (ct : Nat → ClassId) (q_this q_this_jaw q_this_brow q_this_stone q_this_age q_this_family q_this_seat : Nat) (x_this_gargoyles x_this_people x_this_year : Int32) (f_this_jaw f_this_brow f_this_stone f_this_age f_this_family f_this_seat : Nat → Int32) (p1 p2 : Int32) (i_x_this_gargoyles : iv x_this_gargoyles 0 8) (i_x_this_people : iv x_this_people 0 8) (i_x_this_year : iv x_this_year 0 5000) (a_f_this_seat : av f_this_seat 8 (-1) 7) (i_p1 : iv p1 0 7) : cP l yX8_closest wsX8_closest rm_State_closest D ct [(q_this, .inr (8, [.int x_this_gargoyles, .int x_this_people, .int x_this_year, .ref q_this_jaw, .ref q_this_brow, .ref q_this_stone, .ref q_this_age, .ref q_this_family, .ref q_this_seat])), (q_this_jaw, .inl (ct 0, 16, .inl f_this_jaw)), (q_this_brow, .inl (ct 0, 16, .inl f_this_brow)), (q_this_stone, .inl (ct 0, 8, .inl f_this_stone)), (q_this_age, .inl (ct 0, 8, .inl f_this_age)), (q_this_family, .inl (ct 0, 8, .inl f_this_family)), (q_this_seat, .inl (ct 0, 8, .inl f_this_seat))] [.ref q_this, .int p1, .int p2] (fun r : Int32 => iv r (-1) 7 ∧ r = m_State_closest x_this_gargoyles f_this_jaw f_this_brow p1 p2) := by
  refine cP_of (cc := cX8_closest) (maxL := 8) (by decide) rfl (Nat.le_of_ble_eq_true rfl) ?_
  intro p e s m args below meth c Q hx hb hml hts hown hK hP hE ls hl
  have hl : lv_has ls 8 [(0, .ref q_this), (1, .int p1), (2, .int p2)] := hl
  obtain ⟨R, hRe⟩ : ∃ R : (Int32), R = m_State_closest x_this_gargoyles f_this_jaw f_this_brow p1 p2 := ⟨_, rfl⟩
  have hR : uy_Q R (fun z : (Int32) => z) (m_State_closest x_this_gargoyles f_this_jaw f_this_brow p1 p2) := hRe
  have hin_State : ∀ w ∈ u_ws RX8 TX8 9, w ∈ wsX8_closest := fun w h => List.mem_cons_of_mem _ (List.mem_append_right _ (h))
  have K8 : ∀ (n8 : Nat) (v3c8 v4c8 v5c8 : Int32) (ls : Array Slot), iv v3c8 (-1) 7 → iv v5c8 0 8 → (8 - v5c8.toInt).toNat < n8 → uy_Q R (fun z : (Int32) => z) (m_State_closest_k8 x_this_gargoyles f_this_jaw f_this_brow p1 p2 (v3c8, v4c8, v5c8)) → lv_has ls 8 [(0, .ref q_this), (1, .int p1), (2, .int p2), (3, .int v3c8), (4, .int v4c8), (5, .int v5c8)] → W p l e rm_State_closest s m args below meth c s.heap [] 0 0 Q (F0 m 8 ls []) := by
    intro n8
    induction n8 with
    | zero => intro v3c8 v4c8 v5c8 ls i_v3c8 i_v5c8 hm8 hR hl; exact absurd hm8 (Nat.not_lt_zero _)
    | succ n8 ih8 =>
      intro v3c8 v4c8 v5c8 ls i_v3c8 i_v5c8 hm8 hR hl
      replace hR : uy_Q R (uy_E (fun z : (Int32) => z) (m_State_closest_k8 x_this_gargoyles f_this_jaw f_this_brow p1 p2)) (m_State_closest_b8 x_this_gargoyles f_this_jaw f_this_brow p1 p2 v3c8 v4c8 v5c8) := uy_whs hR
      have K69 : ∀ (v3c69 v4c69 v5c69 : Int32) (ls : Array Slot), iv v3c69 (-1) 7 → iv v5c69 0 7 → (8 - v5c69.toInt).toNat < n8 + 1 → uy_Q R (uy_E (fun z : (Int32) => z) (m_State_closest_k8 x_this_gargoyles f_this_jaw f_this_brow p1 p2)) (m_State_closest_k69 x_this_gargoyles f_this_jaw f_this_brow p1 p2 v3c69 v4c69 v5c69) → lv_has ls 8 [(0, .ref q_this), (1, .int p1), (2, .int p2), (3, .int v3c69), (4, .int v4c69), (5, .int v5c69)] → W p l e rm_State_closest s m args below meth c s.heap [] 0 0 Q (F0 m 69 ls []) := by
        intro v3c69 v4c69 v5c69 ls i_v3c69 i_v5c69 hm8 hR hl
        delta m_State_closest_k69 at hR
        obtain ⟨x1, ex1⟩ : ∃ z : Int32, z = v5c69 + (1 : Int32) := ⟨_, rfl⟩
        refine lv_iinc (v := x1) (lv' := [(5, .int x1), (0, .ref q_this), (1, .int p1), (2, .int p2), (3, .int v3c69), (4, .int v4c69)]) hx hb dX8_closest_69 hl (k := 5) rfl (by rw [ex1]; rfl) (by decide) rfl (fun ls hl => ?_)
        replace hR := uy_Ls ex1 hR
        have i_x1 : iv x1 1 8 := iv_add ex1 i_v5c69 (iv_lit (1 : Int32) (by decide) : iv (1 : Int32) 1 1) (by decide) (by decide) (by decide) (by decide)
        refine lv_goto (tgt := 8) hx hb dX8_closest_72 (by decide) ?_
        exact ih8 v3c69 v4c69 x1 ls i_v3c69 (iv_w i_x1 (by decide) (by decide)) (ms_up ex1 i_v5c69 (by decide) (by decide) hm8) (uy_Ql hR) (lv_sub hl [1, 2, 3, 4, 5, 0] rfl)
      have K62 : ∀ (v5c62 v6c62 : Int32) (ls : Array Slot), iv v5c62 0 7 → (8 - v5c62.toInt).toNat < n8 + 1 → uy_Q R (uy_E (fun z : (Int32) => z) (m_State_closest_k8 x_this_gargoyles f_this_jaw f_this_brow p1 p2)) (m_State_closest_k62 x_this_gargoyles f_this_jaw f_this_brow p1 p2 v5c62 v6c62) → lv_has ls 8 [(0, .ref q_this), (1, .int p1), (2, .int p2), (5, .int v5c62), (6, .int v6c62)] → W p l e rm_State_closest s m args below meth c s.heap [] 0 0 Q (F0 m 62 ls []) := by
        intro v5c62 v6c62 ls i_v5c62 hm8 hR hl
        delta m_State_closest_k62 at hR
        refine lv_iload hx hb dX8_closest_62 (lv_at hl 3 rfl) ?_
        refine lv_istore_n (lv' := [(3, .int v5c62), (0, .ref q_this), (1, .int p1), (2, .int p2), (5, .int v5c62), (6, .int v6c62)]) hx hb dX8_closest_64 rfl hl (by decide) rfl (fun ls hl => ?_)
        refine lv_iload hx hb dX8_closest_65 (lv_at hl 5 rfl) ?_
        refine lv_istore (lv' := [(4, .int v6c62), (3, .int v5c62), (0, .ref q_this), (1, .int p1), (2, .int p2), (5, .int v5c62), (6, .int v6c62)]) hx hb dX8_closest_67 hl (by decide) rfl (fun ls hl => ?_)
        exact K69 v5c62 v6c62 v5c62 ls (iv_w i_v5c62 (by decide) (by decide)) i_v5c62 hm8 hR (lv_sub hl [2, 3, 4, 1, 0, 5] rfl)
      have K43 : ∀ (v3c43 v4c43 v5c43 v6c43 s0c43 : Int32) (ls : Array Slot), iv v3c43 (-1) 7 → iv v5c43 0 7 → iv s0c43 0 1 → (8 - v5c43.toInt).toNat < n8 + 1 → uy_Q R (uy_E (fun z : (Int32) => z) (m_State_closest_k8 x_this_gargoyles f_this_jaw f_this_brow p1 p2)) (m_State_closest_k43 x_this_gargoyles f_this_jaw f_this_brow p1 p2 v3c43 v4c43 v5c43 v6c43 s0c43) → lv_has ls 8 [(0, .ref q_this), (1, .int p1), (2, .int p2), (3, .int v3c43), (4, .int v4c43), (5, .int v5c43), (6, .int v6c43)] → W p l e rm_State_closest s m args below meth c s.heap [] 0 0 Q (F0 m 43 ls [.int s0c43]) := by
        intro v3c43 v4c43 v5c43 v6c43 s0c43 ls i_v3c43 i_v5c43 i_s0c43 hm8 hR hl
        delta m_State_closest_k43 at hR
        refine lv_istore (lv' := [(7, .int s0c43), (0, .ref q_this), (1, .int p1), (2, .int p2), (3, .int v3c43), (4, .int v4c43), (5, .int v5c43), (6, .int v6c43)]) hx hb dX8_closest_43 hl (by decide) rfl (fun ls hl => ?_)
        refine lv_iload hx hb dX8_closest_45 (lv_at hl 0 rfl) ?_
        refine lv_if_eq (tgt := 69) hx hb dX8_closest_47 (by decide) (fun c2 => ?_) (fun c2 => ?_)
        ·
          replace hR := uy_Qp c2 hR
          have j3 : iv s0c43 0 0 := by rw [c2]; exact (iv_lit (0 : Int32) (by decide) : iv (0 : Int32) 0 0)
          exact K69 v3c43 v4c43 v5c43 ls i_v3c43 i_v5c43 hm8 hR (lv_sub hl [1, 2, 3, 4, 5, 6] rfl)
        ·
          replace hR := uy_Qn c2 hR
          have j4 : iv s0c43 1 1 := iv_neL c2 i_s0c43 rfl (by decide)
          refine lv_iload_n hx hb dX8_closest_50 rfl (lv_at hl 4 rfl) ?_
          refine lv_iconst (v := -1) hx hb dX8_closest_51 (by decide) ?_
          refine lv_icmp_eq (tgt := 62) hx hb dX8_closest_52 (by decide) (fun c5 => ?_) (fun c5 => ?_)
          ·
            replace hR := uy_Qp c5 hR
            have j6 : iv v3c43 (-1) (-1) := by rw [c5]; exact (iv_lit (-1 : Int32) (by decide) : iv (-1 : Int32) (-1) (-1))
            exact K62 v5c43 v6c43 ls i_v5c43 hm8 hR (lv_sub hl [1, 2, 3, 6, 7] rfl)
          ·
            replace hR := uy_Qn c5 hR
            have j7 : iv v3c43 0 7 := iv_neL c5 i_v3c43 rfl (by decide)
            refine lv_iload hx hb dX8_closest_55 (lv_at hl 7 rfl) ?_
            refine lv_iload hx hb dX8_closest_57 (lv_at hl 5 rfl) ?_
            refine lv_icmp_ge (tgt := 69) hx hb dX8_closest_59 (by decide) (fun c8 => ?_) (fun c8 => ?_)
            ·
              replace hR := uy_Qp c8 hR
              exact K69 v3c43 v4c43 v5c43 ls (iv_w j7 (by decide) (by decide)) i_v5c43 hm8 hR (lv_sub hl [1, 2, 3, 4, 5, 6] rfl)
            ·
              replace hR := uy_Qn c8 hR
              have j9 : iv v6c43 (-2147483648) 2147483646 := iv_ltL (iv_nle c8) (iv_any v6c43) (iv_any v4c43) (by decide)
              have j10 : iv v4c43 (-2147483647) 2147483647 := iv_ltR (iv_nle c8) (iv_any v6c43) (iv_any v4c43) (by decide)
              exact K62 v5c43 v6c43 ls i_v5c43 hm8 hR (lv_sub hl [1, 2, 3, 6, 7] rfl)
      delta m_State_closest_b8 at hR
      refine lv_iload hx hb dX8_closest_8 (lv_at hl 5 rfl) ?_
      refine lv_aload_n hx hb dX8_closest_10 rfl (lv_at hl 0 rfl) ?_
      refine va_get (D := D) (ci := 8) (v := .int x_this_gargoyles) (C := RX8) (T := TX8) (N := 9) hx hb hts hin_State hown hK hP 0 rfl rfl 0 (by decide) (hts (.fieldLink RX8 30 "GutterSeats$State" "gargoyles" "I") (List.mem_cons_of_mem _ (List.mem_append_left _ (List.mem_of_getElem? (i := 0) (by first | rfl | decide +kernel))))) (fun _ h9 => h9) rfl dX8_closest_11 ?_
      refine lv_icmp_ge (tgt := 75) hx hb dX8_closest_14 (by decide) (fun c11 => ?_) (fun c11 => ?_)
      ·
        replace hR := uy_Qp c11 hR
        refine lv_iload_n hx hb dX8_closest_75 rfl (lv_at hl 3 rfl) ?_
        exact hE _ _ _ ⟨i_v3c8, ((uy_Q0 (uy_Qr hR)).symm.trans hRe)⟩ dX8_closest_76
      ·
        replace hR := uy_Qn c11 hR
        have j12 : iv v5c8 0 7 := iv_ltL (iv_nle c11) i_v5c8 i_x_this_gargoyles (by decide)
        have j13 : iv x_this_gargoyles 1 8 := iv_ltR (iv_nle c11) i_v5c8 i_x_this_gargoyles (by decide)
        refine lv_aload_n hx hb dX8_closest_17 rfl (lv_at hl 0 rfl) ?_
        refine lv_iload_n hx hb dX8_closest_18 rfl (lv_at hl 1 rfl) ?_
        refine kPS (rest := [.ref q_this]) ⟨hx, hb, hml, hown, hts⟩ (c_State_faceOf l D ct p1 i_p1) (va_cwS 1 hts gX8_closest_X8_faceOf rfl rfl rfl (by first | exact hdX8_faceOf_1.2 | decide +kernel) ⟨(Nat.le_of_ble_eq_true rfl), (Nat.le_of_ble_eq_true rfl)⟩) hK hP [] rfl rfl hl.1 rfl (Nat.le_of_ble_eq_true rfl) dX8_closest_19 ⟨(Nat.le_of_ble_eq_true rfl), (Nat.le_of_ble_eq_true rfl)⟩ (fun r14 hr14 => ?_)
        have i_r14 : iv r14 8 15 := hr14.1
        have m15 : r14 = m_State_faceOf p1 := hr14.2
        replace hR := uy_Cs1 m15 hR
        refine lv_iload hx hb dX8_closest_22 (lv_at hl 5 rfl) ?_
        refine kPV (rest := []) (ci := 8) ⟨hx, hb, hml, hown, hts⟩ (c_State_unlikeness l D ct q_this q_this_jaw q_this_brow q_this_stone q_this_age q_this_family q_this_seat x_this_gargoyles x_this_people x_this_year f_this_jaw f_this_brow f_this_stone f_this_age f_this_family f_this_seat r14 v5c8 (iv_w j13 (by decide) (by decide)) i_x_this_people i_x_this_year a_f_this_seat (iv_w i_r14 (by decide) (by decide)) (iv_w j12 (by decide) (by decide))) (cwV 2 hts gX8_closest_X8_unlikeness rfl rfl rfl (by first | exact hdX8_unlikeness_2 | decide +kernel) ⟨(Nat.le_of_ble_eq_true rfl), (Nat.le_of_ble_eq_true rfl)⟩) hK hP [0, 1, 2, 3, 4, 5, 6] rfl rfl rfl rfl rfl hl.1 rfl (Nat.le_of_ble_eq_true rfl) dX8_closest_24 ⟨(Nat.le_of_ble_eq_true rfl), (Nat.le_of_ble_eq_true rfl)⟩ (fun r16 hr16 => ?_)
        have m17 : r16 = m_State_unlikeness f_this_jaw f_this_brow r14 v5c8 := hr16
        replace hR := uy_Cs1 m17 hR
        refine lv_istore (lv' := [(6, .int r16), (0, .ref q_this), (1, .int p1), (2, .int p2), (3, .int v3c8), (4, .int v4c8), (5, .int v5c8)]) hx hb dX8_closest_27 hl (by decide) rfl (fun ls hl => ?_)
        refine lv_iload_n hx hb dX8_closest_29 rfl (lv_at hl 3 rfl) ?_
        refine lv_iload hx hb dX8_closest_30 (lv_at hl 6 rfl) ?_
        refine lv_ishr hx hb dX8_closest_32 ?_
        refine lv_topi (fun x18 ex18 => ?_)
        replace hR := uy_Ls ex18 hR
        refine lv_iconst (v := 1) hx hb dX8_closest_33 (by decide) ?_
        refine lv_iand hx hb dX8_closest_34 ?_
        refine lv_topi (fun x19 ex19 => ?_)
        replace hR := uy_Ls ex19 hR
        have i_x19 : iv x19 0 1 := iv_and ex19 (iv_lit (1 : Int32) (by decide) : iv (1 : Int32) 1 1) (by decide)
        refine lv_if_ne (tgt := 42) hx hb dX8_closest_35 (by decide) (fun c20 => ?_) (fun c20 => ?_)
        ·
          replace hR := uy_Qn c20 hR
          have j21 : iv x19 1 1 := iv_neL c20 i_x19 rfl (by decide)
          refine lv_iconst (v := 0) hx hb dX8_closest_42 (by decide) ?_
          exact K43 v3c8 v4c8 v5c8 r16 (0 : Int32) ls i_v3c8 j12 (iv_lit (0 : Int32) (by decide) : iv (0 : Int32) 0 1) hm8 hR (lv_sub hl [1, 2, 3, 4, 5, 6, 0] rfl)
        ·
          replace hR := uy_Qp c20 hR
          have j22 : iv x19 0 0 := by rw [c20]; exact (iv_lit (0 : Int32) (by decide) : iv (0 : Int32) 0 0)
          refine lv_iconst (v := 1) hx hb dX8_closest_38 (by decide) ?_
          refine lv_goto (tgt := 43) hx hb dX8_closest_39 (by decide) ?_
          exact K43 v3c8 v4c8 v5c8 r16 (1 : Int32) ls i_v3c8 j12 (iv_lit (1 : Int32) (by decide) : iv (1 : Int32) 0 1) hm8 hR (lv_sub hl [1, 2, 3, 4, 5, 6, 0] rfl)
  delta m_State_closest at hR
  refine lv_iconst (v := -1) hx hb dX8_closest_0 (by decide) ?_
  refine lv_istore_n (lv' := [(3, .int (-1 : Int32)), (0, .ref q_this), (1, .int p1), (2, .int p2)]) hx hb dX8_closest_1 rfl hl (by decide) rfl (fun ls hl => ?_)
  refine lv_iconst (v := -1) hx hb dX8_closest_2 (by decide) ?_
  refine lv_istore (lv' := [(4, .int (-1 : Int32)), (3, .int (-1 : Int32)), (0, .ref q_this), (1, .int p1), (2, .int p2)]) hx hb dX8_closest_3 hl (by decide) rfl (fun ls hl => ?_)
  refine lv_iconst (v := 0) hx hb dX8_closest_5 (by decide) ?_
  refine lv_istore (lv' := [(5, .int (0 : Int32)), (4, .int (-1 : Int32)), (3, .int (-1 : Int32)), (0, .ref q_this), (1, .int p1), (2, .int p2)]) hx hb dX8_closest_6 hl (by decide) rfl (fun ls hl => ?_)
  exact K8 _ (-1 : Int32) (-1 : Int32) (0 : Int32) ls (iv_lit (-1 : Int32) (by decide) : iv (-1 : Int32) (-1) 7) (iv_lit (0 : Int32) (by decide) : iv (0 : Int32) 0 8) (Nat.lt_succ_self _) hR (lv_sub hl [3, 4, 5, 2, 1, 0] rfl)
abbrev rm_State_sitterAt : Room := { frames := 0, cells := 0, slots := 0, locals := 0 }
set_option maxHeartbeats 4000000 in
set_option maxRecDepth 100000 in
theorem c_State_sitterAt (l : Launch) (D : va_G) (ct : Nat → ClassId) (q_this q_this_jaw q_this_brow q_this_stone q_this_age q_this_family q_this_seat : Nat) (x_this_gargoyles x_this_people x_this_year : Int32) (f_this_jaw f_this_brow f_this_stone f_this_age f_this_family f_this_seat : Nat → Int32) (p1 : Int32) (i_x_this_gargoyles : iv x_this_gargoyles 0 8) (i_x_this_people : iv x_this_people 0 8) (i_x_this_year : iv x_this_year 0 5000) (a_f_this_seat : av f_this_seat 8 (-1) 7) : cP l yX8_sitterAt wsX8_sitterAt rm_State_sitterAt D ct [(q_this, .inr (8, [.int x_this_gargoyles, .int x_this_people, .int x_this_year, .ref q_this_jaw, .ref q_this_brow, .ref q_this_stone, .ref q_this_age, .ref q_this_family, .ref q_this_seat])), (q_this_jaw, .inl (ct 0, 16, .inl f_this_jaw)), (q_this_brow, .inl (ct 0, 16, .inl f_this_brow)), (q_this_stone, .inl (ct 0, 8, .inl f_this_stone)), (q_this_age, .inl (ct 0, 8, .inl f_this_age)), (q_this_family, .inl (ct 0, 8, .inl f_this_family)), (q_this_seat, .inl (ct 0, 8, .inl f_this_seat))] [.ref q_this, .int p1] (fun r : Int32 => iv r (-1) 7 ∧ r = m_State_sitterAt x_this_people f_this_seat p1) := by
  refine cP_of (cc := cX8_sitterAt) (maxL := 3) (by decide) rfl (Nat.le_of_ble_eq_true rfl) ?_
  intro p e s m args below meth c Q hx hb hml hts hown hK hP hE ls hl
  have hl : lv_has ls 3 [(0, .ref q_this), (1, .int p1)] := hl
  obtain ⟨R, hRe⟩ : ∃ R : (Int32), R = m_State_sitterAt x_this_people f_this_seat p1 := ⟨_, rfl⟩
  have hR : uy_Q R (fun z : (Int32) => z) (m_State_sitterAt x_this_people f_this_seat p1) := hRe
  have hin_State : ∀ w ∈ u_ws RX8 TX8 9, w ∈ wsX8_sitterAt := fun w h => List.mem_cons_of_mem _ (List.mem_append_right _ (h))
  have K2 : ∀ (n2 : Nat) (v2c2 : Int32) (ls : Array Slot), iv v2c2 0 8 → (8 - v2c2.toInt).toNat < n2 → uy_Q R (fun z : (Int32) => z) (m_State_sitterAt_k2 x_this_people f_this_seat p1 (v2c2)) → lv_has ls 3 [(0, .ref q_this), (1, .int p1), (2, .int v2c2)] → W p l e rm_State_sitterAt s m args below meth c s.heap [] 0 0 Q (F0 m 2 ls []) := by
    intro n2
    induction n2 with
    | zero => intro v2c2 ls i_v2c2 hm2 hR hl; exact absurd hm2 (Nat.not_lt_zero _)
    | succ n2 ih2 =>
      intro v2c2 ls i_v2c2 hm2 hR hl
      replace hR : uy_Q R (uy_E (fun z : (Int32) => z) (m_State_sitterAt_k2 x_this_people f_this_seat p1)) (m_State_sitterAt_b2 x_this_people f_this_seat p1 v2c2) := uy_whs hR
      delta m_State_sitterAt_b2 at hR
      refine lv_iload_n hx hb dX8_sitterAt_2 rfl (lv_at hl 2 rfl) ?_
      refine lv_aload_n hx hb dX8_sitterAt_3 rfl (lv_at hl 0 rfl) ?_
      refine va_get (D := D) (ci := 8) (v := .int x_this_people) (C := RX8) (T := TX8) (N := 9) hx hb hts hin_State hown hK hP 0 rfl rfl 1 (by decide) (hts (.fieldLink RX8 34 "GutterSeats$State" "people" "I") (List.mem_cons_of_mem _ (List.mem_append_left _ (List.mem_of_getElem? (i := 0) (by first | rfl | decide +kernel))))) (fun _ h9 => h9) rfl dX8_sitterAt_4 ?_
      refine lv_icmp_ge (tgt := 28) hx hb dX8_sitterAt_7 (by decide) (fun c1 => ?_) (fun c1 => ?_)
      ·
        replace hR := uy_Qp c1 hR
        refine lv_iconst (v := -1) hx hb dX8_sitterAt_28 (by decide) ?_
        exact hE _ _ _ ⟨(iv_lit (-1 : Int32) (by decide) : iv (-1 : Int32) (-1) 7), ((uy_Q0 (uy_Qr hR)).symm.trans hRe)⟩ dX8_sitterAt_29
      ·
        replace hR := uy_Qn c1 hR
        have j2 : iv v2c2 0 7 := iv_ltL (iv_nle c1) i_v2c2 i_x_this_people (by decide)
        have j3 : iv x_this_people 1 8 := iv_ltR (iv_nle c1) i_v2c2 i_x_this_people (by decide)
        refine lv_aload_n hx hb dX8_sitterAt_10 rfl (lv_at hl 0 rfl) ?_
        refine va_get (D := D) (ci := 8) (v := .ref q_this_seat) (C := RX8) (T := TX8) (N := 9) hx hb hts hin_State hown hK hP 0 rfl rfl 8 (by decide) (hts (.fieldLink RX8 27 "GutterSeats$State" "seat" "[I") (List.mem_cons_of_mem _ (List.mem_append_left _ (List.mem_of_getElem? (i := 1) (by first | rfl | decide +kernel))))) (fun _ h9 => h9) rfl dX8_sitterAt_11 ?_
        refine lv_iload_n hx hb dX8_sitterAt_14 rfl (lv_at hl 2 rfl) ?_
        have n4 : vp_in v2c2 8 := iv_in j2 (by decide) (by decide)
        refine va_iald hx hb hK hP 6 0 rfl rfl n4 dX8_sitterAt_15 ?_
        refine lv_topi (fun x5 ex5 => ?_)
        replace hR := uy_Ls ex5 hR
        have i_x5 : iv x5 (-1) 7 := by rw [ex5]; exact av_get a_f_this_seat n4
        refine lv_iload_n hx hb dX8_sitterAt_16 rfl (lv_at hl 1 rfl) ?_
        refine lv_icmp_ne (tgt := 22) hx hb dX8_sitterAt_17 (by decide) (fun c6 => ?_) (fun c6 => ?_)
        ·
          replace hR := uy_Qn c6 hR
          obtain ⟨x7, ex7⟩ : ∃ z : Int32, z = v2c2 + (1 : Int32) := ⟨_, rfl⟩
          refine lv_iinc (v := x7) (lv' := [(2, .int x7), (0, .ref q_this), (1, .int p1)]) hx hb dX8_sitterAt_22 hl (k := 2) rfl (by rw [ex7]; rfl) (by decide) rfl (fun ls hl => ?_)
          replace hR := uy_Ls ex7 hR
          have i_x7 : iv x7 1 8 := iv_add ex7 j2 (iv_lit (1 : Int32) (by decide) : iv (1 : Int32) 1 1) (by decide) (by decide) (by decide) (by decide)
          refine lv_goto (tgt := 2) hx hb dX8_sitterAt_25 (by decide) ?_
          exact ih2 x7 ls (iv_w i_x7 (by decide) (by decide)) (ms_up ex7 j2 (by decide) (by decide) hm2) (uy_Ql hR) (lv_sub hl [1, 2, 0] rfl)
        ·
          replace hR := uy_Qp c6 hR
          have j8 : iv p1 (-1) 7 := by rw [← c6]; exact i_x5
          refine lv_iload_n hx hb dX8_sitterAt_20 rfl (lv_at hl 2 rfl) ?_
          exact hE _ _ _ ⟨(iv_w j2 (by decide) (by decide)), ((uy_Q0 (uy_Qr hR)).symm.trans hRe)⟩ dX8_sitterAt_21
  delta m_State_sitterAt at hR
  refine lv_iconst (v := 0) hx hb dX8_sitterAt_0 (by decide) ?_
  refine lv_istore_n (lv' := [(2, .int (0 : Int32)), (0, .ref q_this), (1, .int p1)]) hx hb dX8_sitterAt_1 rfl hl (by decide) rfl (fun ls hl => ?_)
  exact K2 _ (0 : Int32) ls (iv_lit (0 : Int32) (by decide) : iv (0 : Int32) 0 8) (Nat.lt_succ_self _) hR (lv_sub hl [1, 2, 0] rfl)
abbrev rm_State_takenBits : Room := { frames := 0, cells := 0, slots := 0, locals := 0 }
set_option maxHeartbeats 4000000 in
set_option maxRecDepth 100000 in
theorem c_State_takenBits (l : Launch) (D : va_G) (ct : Nat → ClassId) (q_this q_this_jaw q_this_brow q_this_stone q_this_age q_this_family q_this_seat : Nat) (x_this_gargoyles x_this_people x_this_year : Int32) (f_this_jaw f_this_brow f_this_stone f_this_age f_this_family f_this_seat : Nat → Int32) (i_x_this_gargoyles : iv x_this_gargoyles 0 8) (i_x_this_people : iv x_this_people 0 8) (i_x_this_year : iv x_this_year 0 5000) (a_f_this_seat : av f_this_seat 8 (-1) 7) : cP l yX8_takenBits wsX8_takenBits rm_State_takenBits D ct [(q_this, .inr (8, [.int x_this_gargoyles, .int x_this_people, .int x_this_year, .ref q_this_jaw, .ref q_this_brow, .ref q_this_stone, .ref q_this_age, .ref q_this_family, .ref q_this_seat])), (q_this_jaw, .inl (ct 0, 16, .inl f_this_jaw)), (q_this_brow, .inl (ct 0, 16, .inl f_this_brow)), (q_this_stone, .inl (ct 0, 8, .inl f_this_stone)), (q_this_age, .inl (ct 0, 8, .inl f_this_age)), (q_this_family, .inl (ct 0, 8, .inl f_this_family)), (q_this_seat, .inl (ct 0, 8, .inl f_this_seat))] [.ref q_this] (fun r : Int32 => r = m_State_takenBits x_this_people f_this_seat) := by
  refine cP_of (cc := cX8_takenBits) (maxL := 3) (by decide) rfl (Nat.le_of_ble_eq_true rfl) ?_
  intro p e s m args below meth c Q hx hb hml hts hown hK hP hE ls hl
  have hl : lv_has ls 3 [(0, .ref q_this)] := hl
  obtain ⟨R, hRe⟩ : ∃ R : (Int32), R = m_State_takenBits x_this_people f_this_seat := ⟨_, rfl⟩
  have hR : uy_Q R (fun z : (Int32) => z) (m_State_takenBits x_this_people f_this_seat) := hRe
  have hin_State : ∀ w ∈ u_ws RX8 TX8 9, w ∈ wsX8_takenBits := fun w h => List.mem_cons_of_mem _ (List.mem_append_right _ (h))
  have K4 : ∀ (n4 : Nat) (v1c4 v2c4 : Int32) (ls : Array Slot), iv v2c4 0 8 → (8 - v2c4.toInt).toNat < n4 → uy_Q R (fun z : (Int32) => z) (m_State_takenBits_k4 x_this_people f_this_seat (v1c4, v2c4)) → lv_has ls 3 [(0, .ref q_this), (1, .int v1c4), (2, .int v2c4)] → W p l e rm_State_takenBits s m args below meth c s.heap [] 0 0 Q (F0 m 4 ls []) := by
    intro n4
    induction n4 with
    | zero => intro v1c4 v2c4 ls i_v2c4 hm4 hR hl; exact absurd hm4 (Nat.not_lt_zero _)
    | succ n4 ih4 =>
      intro v1c4 v2c4 ls i_v2c4 hm4 hR hl
      replace hR : uy_Q R (uy_E (fun z : (Int32) => z) (m_State_takenBits_k4 x_this_people f_this_seat)) (m_State_takenBits_b4 x_this_people f_this_seat v1c4 v2c4) := uy_whs hR
      have K33 : ∀ (v1c33 v2c33 : Int32) (ls : Array Slot), iv v2c33 0 7 → (8 - v2c33.toInt).toNat < n4 + 1 → uy_Q R (uy_E (fun z : (Int32) => z) (m_State_takenBits_k4 x_this_people f_this_seat)) (m_State_takenBits_k33 x_this_people f_this_seat v1c33 v2c33) → lv_has ls 3 [(0, .ref q_this), (1, .int v1c33), (2, .int v2c33)] → W p l e rm_State_takenBits s m args below meth c s.heap [] 0 0 Q (F0 m 33 ls []) := by
        intro v1c33 v2c33 ls i_v2c33 hm4 hR hl
        delta m_State_takenBits_k33 at hR
        obtain ⟨x1, ex1⟩ : ∃ z : Int32, z = v2c33 + (1 : Int32) := ⟨_, rfl⟩
        refine lv_iinc (v := x1) (lv' := [(2, .int x1), (0, .ref q_this), (1, .int v1c33)]) hx hb dX8_takenBits_33 hl (k := 2) rfl (by rw [ex1]; rfl) (by decide) rfl (fun ls hl => ?_)
        replace hR := uy_Ls ex1 hR
        have i_x1 : iv x1 1 8 := iv_add ex1 i_v2c33 (iv_lit (1 : Int32) (by decide) : iv (1 : Int32) 1 1) (by decide) (by decide) (by decide) (by decide)
        refine lv_goto (tgt := 4) hx hb dX8_takenBits_36 (by decide) ?_
        exact ih4 v1c33 x1 ls (iv_w i_x1 (by decide) (by decide)) (ms_up ex1 i_v2c33 (by decide) (by decide) hm4) (uy_Ql hR) (lv_sub hl [1, 2, 0] rfl)
      delta m_State_takenBits_b4 at hR
      refine lv_iload_n hx hb dX8_takenBits_4 rfl (lv_at hl 2 rfl) ?_
      refine lv_aload_n hx hb dX8_takenBits_5 rfl (lv_at hl 0 rfl) ?_
      refine va_get (D := D) (ci := 8) (v := .int x_this_people) (C := RX8) (T := TX8) (N := 9) hx hb hts hin_State hown hK hP 0 rfl rfl 1 (by decide) (hts (.fieldLink RX8 34 "GutterSeats$State" "people" "I") (List.mem_cons_of_mem _ (List.mem_append_left _ (List.mem_of_getElem? (i := 0) (by first | rfl | decide +kernel))))) (fun _ h9 => h9) rfl dX8_takenBits_6 ?_
      refine lv_icmp_ge (tgt := 39) hx hb dX8_takenBits_9 (by decide) (fun c2 => ?_) (fun c2 => ?_)
      ·
        replace hR := uy_Qp c2 hR
        refine lv_iload_n hx hb dX8_takenBits_39 rfl (lv_at hl 1 rfl) ?_
        exact hE _ _ _ ((uy_Q0 (uy_Qr hR)).symm.trans hRe) dX8_takenBits_40
      ·
        replace hR := uy_Qn c2 hR
        have j3 : iv v2c4 0 7 := iv_ltL (iv_nle c2) i_v2c4 i_x_this_people (by decide)
        have j4 : iv x_this_people 1 8 := iv_ltR (iv_nle c2) i_v2c4 i_x_this_people (by decide)
        refine lv_aload_n hx hb dX8_takenBits_12 rfl (lv_at hl 0 rfl) ?_
        refine va_get (D := D) (ci := 8) (v := .ref q_this_seat) (C := RX8) (T := TX8) (N := 9) hx hb hts hin_State hown hK hP 0 rfl rfl 8 (by decide) (hts (.fieldLink RX8 27 "GutterSeats$State" "seat" "[I") (List.mem_cons_of_mem _ (List.mem_append_left _ (List.mem_of_getElem? (i := 1) (by first | rfl | decide +kernel))))) (fun _ h9 => h9) rfl dX8_takenBits_13 ?_
        refine lv_iload_n hx hb dX8_takenBits_16 rfl (lv_at hl 2 rfl) ?_
        have n5 : vp_in v2c4 8 := iv_in j3 (by decide) (by decide)
        refine va_iald hx hb hK hP 6 0 rfl rfl n5 dX8_takenBits_17 ?_
        refine lv_topi (fun x6 ex6 => ?_)
        replace hR := uy_Ls ex6 hR
        have i_x6 : iv x6 (-1) 7 := by rw [ex6]; exact av_get a_f_this_seat n5
        refine lv_iconst (v := -1) hx hb dX8_takenBits_18 (by decide) ?_
        refine lv_icmp_eq (tgt := 33) hx hb dX8_takenBits_19 (by decide) (fun c7 => ?_) (fun c7 => ?_)
        ·
          replace hR := uy_Qp c7 hR
          have j8 : iv x6 (-1) (-1) := by rw [c7]; exact (iv_lit (-1 : Int32) (by decide) : iv (-1 : Int32) (-1) (-1))
          exact K33 v1c4 v2c4 ls j3 hm4 hR (lv_sub hl [0, 1, 2] rfl)
        ·
          replace hR := uy_Qn c7 hR
          have j9 : iv x6 0 7 := iv_neL c7 i_x6 rfl (by decide)
          refine lv_iload_n hx hb dX8_takenBits_22 rfl (lv_at hl 1 rfl) ?_
          refine lv_iconst (v := 1) hx hb dX8_takenBits_23 (by decide) ?_
          refine lv_aload_n hx hb dX8_takenBits_24 rfl (lv_at hl 0 rfl) ?_
          refine va_get (D := D) (ci := 8) (v := .ref q_this_seat) (C := RX8) (T := TX8) (N := 9) hx hb hts hin_State hown hK hP 0 rfl rfl 8 (by decide) (hts (.fieldLink RX8 27 "GutterSeats$State" "seat" "[I") (List.mem_cons_of_mem _ (List.mem_append_left _ (List.mem_of_getElem? (i := 1) (by first | rfl | decide +kernel))))) (fun _ h9 => h9) rfl dX8_takenBits_25 ?_
          refine lv_iload_n hx hb dX8_takenBits_28 rfl (lv_at hl 2 rfl) ?_
          have n10 : vp_in v2c4 8 := iv_in j3 (by decide) (by decide)
          refine va_iald hx hb hK hP 6 0 rfl rfl n10 dX8_takenBits_29 ?_
          refine lv_tope ex6.symm ?_
          refine lv_ishl hx hb dX8_takenBits_30 ?_
          refine lv_topi (fun x11 ex11 => ?_)
          replace hR := uy_Ls ex11 hR
          have i_x11 : iv x11 1 128 := iv_shl1 ex11 j9 (by decide) (by decide) (by decide) (by decide)
          refine lv_ior hx hb dX8_takenBits_31 ?_
          refine lv_topi (fun x12 ex12 => ?_)
          replace hR := uy_Ls ex12 hR
          refine lv_istore_n (lv' := [(1, .int x12), (0, .ref q_this), (2, .int v2c4)]) hx hb dX8_takenBits_32 rfl hl (by decide) rfl (fun ls hl => ?_)
          exact K33 x12 v2c4 ls j3 hm4 hR (lv_sub hl [1, 0, 2] rfl)
  delta m_State_takenBits at hR
  refine lv_iconst (v := 0) hx hb dX8_takenBits_0 (by decide) ?_
  refine lv_istore_n (lv' := [(1, .int (0 : Int32)), (0, .ref q_this)]) hx hb dX8_takenBits_1 rfl hl (by decide) rfl (fun ls hl => ?_)
  refine lv_iconst (v := 0) hx hb dX8_takenBits_2 (by decide) ?_
  refine lv_istore_n (lv' := [(2, .int (0 : Int32)), (1, .int (0 : Int32)), (0, .ref q_this)]) hx hb dX8_takenBits_3 rfl hl (by decide) rfl (fun ls hl => ?_)
  exact K4 _ (0 : Int32) (0 : Int32) ls (iv_lit (0 : Int32) (by decide) : iv (0 : Int32) 0 8) (Nat.lt_succ_self _) hR (lv_sub hl [2, 1, 0] rfl)
abbrev rm_State_sitterBits : Room := { frames := 0, cells := 0, slots := 0, locals := 0 }
set_option maxHeartbeats 4000000 in
set_option maxRecDepth 100000 in
theorem c_State_sitterBits (l : Launch) (D : va_G) (ct : Nat → ClassId) (q_this q_this_jaw q_this_brow q_this_stone q_this_age q_this_family q_this_seat : Nat) (x_this_gargoyles x_this_people x_this_year : Int32) (f_this_jaw f_this_brow f_this_stone f_this_age f_this_family f_this_seat : Nat → Int32) (i_x_this_gargoyles : iv x_this_gargoyles 0 8) (i_x_this_people : iv x_this_people 0 8) (i_x_this_year : iv x_this_year 0 5000) (a_f_this_seat : av f_this_seat 8 (-1) 7) : cP l yX8_sitterBits wsX8_sitterBits rm_State_sitterBits D ct [(q_this, .inr (8, [.int x_this_gargoyles, .int x_this_people, .int x_this_year, .ref q_this_jaw, .ref q_this_brow, .ref q_this_stone, .ref q_this_age, .ref q_this_family, .ref q_this_seat])), (q_this_jaw, .inl (ct 0, 16, .inl f_this_jaw)), (q_this_brow, .inl (ct 0, 16, .inl f_this_brow)), (q_this_stone, .inl (ct 0, 8, .inl f_this_stone)), (q_this_age, .inl (ct 0, 8, .inl f_this_age)), (q_this_family, .inl (ct 0, 8, .inl f_this_family)), (q_this_seat, .inl (ct 0, 8, .inl f_this_seat))] [.ref q_this] (fun r : Int32 => r = m_State_sitterBits x_this_people f_this_seat) := by
  refine cP_of (cc := cX8_sitterBits) (maxL := 3) (by decide) rfl (Nat.le_of_ble_eq_true rfl) ?_
  intro p e s m args below meth c Q hx hb hml hts hown hK hP hE ls hl
  have hl : lv_has ls 3 [(0, .ref q_this)] := hl
  obtain ⟨R, hRe⟩ : ∃ R : (Int32), R = m_State_sitterBits x_this_people f_this_seat := ⟨_, rfl⟩
  have hR : uy_Q R (fun z : (Int32) => z) (m_State_sitterBits x_this_people f_this_seat) := hRe
  have hin_State : ∀ w ∈ u_ws RX8 TX8 9, w ∈ wsX8_sitterBits := fun w h => List.mem_cons_of_mem _ (List.mem_append_right _ (h))
  have K4 : ∀ (n4 : Nat) (v1c4 v2c4 : Int32) (ls : Array Slot), iv v1c4 0 255 → iv v2c4 0 8 → (8 - v2c4.toInt).toNat < n4 → uy_Q R (fun z : (Int32) => z) (m_State_sitterBits_k4 x_this_people f_this_seat (v1c4, v2c4)) → lv_has ls 3 [(0, .ref q_this), (1, .int v1c4), (2, .int v2c4)] → W p l e rm_State_sitterBits s m args below meth c s.heap [] 0 0 Q (F0 m 4 ls []) := by
    intro n4
    induction n4 with
    | zero => intro v1c4 v2c4 ls i_v1c4 i_v2c4 hm4 hR hl; exact absurd hm4 (Nat.not_lt_zero _)
    | succ n4 ih4 =>
      intro v1c4 v2c4 ls i_v1c4 i_v2c4 hm4 hR hl
      replace hR : uy_Q R (uy_E (fun z : (Int32) => z) (m_State_sitterBits_k4 x_this_people f_this_seat)) (m_State_sitterBits_b4 x_this_people f_this_seat v1c4 v2c4) := uy_whs hR
      have K28 : ∀ (v1c28 v2c28 : Int32) (ls : Array Slot), iv v1c28 0 255 → iv v2c28 0 7 → (8 - v2c28.toInt).toNat < n4 + 1 → uy_Q R (uy_E (fun z : (Int32) => z) (m_State_sitterBits_k4 x_this_people f_this_seat)) (m_State_sitterBits_k28 x_this_people f_this_seat v1c28 v2c28) → lv_has ls 3 [(0, .ref q_this), (1, .int v1c28), (2, .int v2c28)] → W p l e rm_State_sitterBits s m args below meth c s.heap [] 0 0 Q (F0 m 28 ls []) := by
        intro v1c28 v2c28 ls i_v1c28 i_v2c28 hm4 hR hl
        delta m_State_sitterBits_k28 at hR
        obtain ⟨x1, ex1⟩ : ∃ z : Int32, z = v2c28 + (1 : Int32) := ⟨_, rfl⟩
        refine lv_iinc (v := x1) (lv' := [(2, .int x1), (0, .ref q_this), (1, .int v1c28)]) hx hb dX8_sitterBits_28 hl (k := 2) rfl (by rw [ex1]; rfl) (by decide) rfl (fun ls hl => ?_)
        replace hR := uy_Ls ex1 hR
        have i_x1 : iv x1 1 8 := iv_add ex1 i_v2c28 (iv_lit (1 : Int32) (by decide) : iv (1 : Int32) 1 1) (by decide) (by decide) (by decide) (by decide)
        refine lv_goto (tgt := 4) hx hb dX8_sitterBits_31 (by decide) ?_
        exact ih4 v1c28 x1 ls i_v1c28 (iv_w i_x1 (by decide) (by decide)) (ms_up ex1 i_v2c28 (by decide) (by decide) hm4) (uy_Ql hR) (lv_sub hl [1, 2, 0] rfl)
      delta m_State_sitterBits_b4 at hR
      refine lv_iload_n hx hb dX8_sitterBits_4 rfl (lv_at hl 2 rfl) ?_
      refine lv_aload_n hx hb dX8_sitterBits_5 rfl (lv_at hl 0 rfl) ?_
      refine va_get (D := D) (ci := 8) (v := .int x_this_people) (C := RX8) (T := TX8) (N := 9) hx hb hts hin_State hown hK hP 0 rfl rfl 1 (by decide) (hts (.fieldLink RX8 34 "GutterSeats$State" "people" "I") (List.mem_cons_of_mem _ (List.mem_append_left _ (List.mem_of_getElem? (i := 0) (by first | rfl | decide +kernel))))) (fun _ h9 => h9) rfl dX8_sitterBits_6 ?_
      refine lv_icmp_ge (tgt := 34) hx hb dX8_sitterBits_9 (by decide) (fun c2 => ?_) (fun c2 => ?_)
      ·
        replace hR := uy_Qp c2 hR
        refine lv_iload_n hx hb dX8_sitterBits_34 rfl (lv_at hl 1 rfl) ?_
        exact hE _ _ _ ((uy_Q0 (uy_Qr hR)).symm.trans hRe) dX8_sitterBits_35
      ·
        replace hR := uy_Qn c2 hR
        have j3 : iv v2c4 0 7 := iv_ltL (iv_nle c2) i_v2c4 i_x_this_people (by decide)
        have j4 : iv x_this_people 1 8 := iv_ltR (iv_nle c2) i_v2c4 i_x_this_people (by decide)
        refine lv_aload_n hx hb dX8_sitterBits_12 rfl (lv_at hl 0 rfl) ?_
        refine va_get (D := D) (ci := 8) (v := .ref q_this_seat) (C := RX8) (T := TX8) (N := 9) hx hb hts hin_State hown hK hP 0 rfl rfl 8 (by decide) (hts (.fieldLink RX8 27 "GutterSeats$State" "seat" "[I") (List.mem_cons_of_mem _ (List.mem_append_left _ (List.mem_of_getElem? (i := 1) (by first | rfl | decide +kernel))))) (fun _ h9 => h9) rfl dX8_sitterBits_13 ?_
        refine lv_iload_n hx hb dX8_sitterBits_16 rfl (lv_at hl 2 rfl) ?_
        have n5 : vp_in v2c4 8 := iv_in j3 (by decide) (by decide)
        refine va_iald hx hb hK hP 6 0 rfl rfl n5 dX8_sitterBits_17 ?_
        refine lv_topi (fun x6 ex6 => ?_)
        replace hR := uy_Ls ex6 hR
        have i_x6 : iv x6 (-1) 7 := by rw [ex6]; exact av_get a_f_this_seat n5
        refine lv_iconst (v := -1) hx hb dX8_sitterBits_18 (by decide) ?_
        refine lv_icmp_eq (tgt := 28) hx hb dX8_sitterBits_19 (by decide) (fun c7 => ?_) (fun c7 => ?_)
        ·
          replace hR := uy_Qp c7 hR
          have j8 : iv x6 (-1) (-1) := by rw [c7]; exact (iv_lit (-1 : Int32) (by decide) : iv (-1 : Int32) (-1) (-1))
          exact K28 v1c4 v2c4 ls i_v1c4 j3 hm4 hR (lv_sub hl [0, 1, 2] rfl)
        ·
          replace hR := uy_Qn c7 hR
          have j9 : iv x6 0 7 := iv_neL c7 i_x6 rfl (by decide)
          refine lv_iload_n hx hb dX8_sitterBits_22 rfl (lv_at hl 1 rfl) ?_
          refine lv_iconst (v := 1) hx hb dX8_sitterBits_23 (by decide) ?_
          refine lv_iload_n hx hb dX8_sitterBits_24 rfl (lv_at hl 2 rfl) ?_
          refine lv_ishl hx hb dX8_sitterBits_25 ?_
          refine lv_topi (fun x10 ex10 => ?_)
          replace hR := uy_Ls ex10 hR
          have i_x10 : iv x10 1 128 := iv_shl1 ex10 j3 (by decide) (by decide) (by decide) (by decide)
          refine lv_ior hx hb dX8_sitterBits_26 ?_
          refine lv_topi (fun x11 ex11 => ?_)
          replace hR := uy_Ls ex11 hR
          have i_x11 : iv x11 0 255 := iv_or 8 ex11 (iv_w i_v1c4 (by decide) (by decide) : iv _ 0 255) (iv_w i_x10 (by decide) (by decide) : iv _ 0 128) (by decide) (by decide) (by decide)
          refine lv_istore_n (lv' := [(1, .int x11), (0, .ref q_this), (2, .int v2c4)]) hx hb dX8_sitterBits_27 rfl hl (by decide) rfl (fun ls hl => ?_)
          exact K28 x11 v2c4 ls i_x11 j3 hm4 hR (lv_sub hl [1, 0, 2] rfl)
  delta m_State_sitterBits at hR
  refine lv_iconst (v := 0) hx hb dX8_sitterBits_0 (by decide) ?_
  refine lv_istore_n (lv' := [(1, .int (0 : Int32)), (0, .ref q_this)]) hx hb dX8_sitterBits_1 rfl hl (by decide) rfl (fun ls hl => ?_)
  refine lv_iconst (v := 0) hx hb dX8_sitterBits_2 (by decide) ?_
  refine lv_istore_n (lv' := [(2, .int (0 : Int32)), (1, .int (0 : Int32)), (0, .ref q_this)]) hx hb dX8_sitterBits_3 rfl hl (by decide) rfl (fun ls hl => ?_)
  exact K4 _ (0 : Int32) (0 : Int32) ls (iv_lit (0 : Int32) (by decide) : iv (0 : Int32) 0 255) (iv_lit (0 : Int32) (by decide) : iv (0 : Int32) 0 8) (Nat.lt_succ_self _) hR (lv_sub hl [2, 1, 0] rfl)
abbrev rm_State_familyBits : Room := { frames := 0, cells := 0, slots := 0, locals := 0 }
set_option maxHeartbeats 4000000 in
set_option maxRecDepth 100000 in
theorem c_State_familyBits (l : Launch) (D : va_G) (ct : Nat → ClassId) (q_this q_this_jaw q_this_brow q_this_stone q_this_age q_this_family q_this_seat : Nat) (x_this_gargoyles x_this_people x_this_year : Int32) (f_this_jaw f_this_brow f_this_stone f_this_age f_this_family f_this_seat : Nat → Int32) (p1 : Int32) (i_x_this_gargoyles : iv x_this_gargoyles 0 8) (i_x_this_people : iv x_this_people 0 8) (i_x_this_year : iv x_this_year 0 5000) (a_f_this_seat : av f_this_seat 8 (-1) 7) : cP l yX8_familyBits wsX8_familyBits rm_State_familyBits D ct [(q_this, .inr (8, [.int x_this_gargoyles, .int x_this_people, .int x_this_year, .ref q_this_jaw, .ref q_this_brow, .ref q_this_stone, .ref q_this_age, .ref q_this_family, .ref q_this_seat])), (q_this_jaw, .inl (ct 0, 16, .inl f_this_jaw)), (q_this_brow, .inl (ct 0, 16, .inl f_this_brow)), (q_this_stone, .inl (ct 0, 8, .inl f_this_stone)), (q_this_age, .inl (ct 0, 8, .inl f_this_age)), (q_this_family, .inl (ct 0, 8, .inl f_this_family)), (q_this_seat, .inl (ct 0, 8, .inl f_this_seat))] [.ref q_this, .int p1] (fun r : Int32 => r = m_State_familyBits x_this_people f_this_family p1) := by
  refine cP_of (cc := cX8_familyBits) (maxL := 4) (by decide) rfl (Nat.le_of_ble_eq_true rfl) ?_
  intro p e s m args below meth c Q hx hb hml hts hown hK hP hE ls hl
  have hl : lv_has ls 4 [(0, .ref q_this), (1, .int p1)] := hl
  obtain ⟨R, hRe⟩ : ∃ R : (Int32), R = m_State_familyBits x_this_people f_this_family p1 := ⟨_, rfl⟩
  have hR : uy_Q R (fun z : (Int32) => z) (m_State_familyBits x_this_people f_this_family p1) := hRe
  have hin_State : ∀ w ∈ u_ws RX8 TX8 9, w ∈ wsX8_familyBits := fun w h => List.mem_cons_of_mem _ (List.mem_append_right _ (h))
  have K4 : ∀ (n4 : Nat) (v2c4 v3c4 : Int32) (ls : Array Slot), iv v2c4 0 255 → iv v3c4 0 8 → (8 - v3c4.toInt).toNat < n4 → uy_Q R (fun z : (Int32) => z) (m_State_familyBits_k4 x_this_people f_this_family p1 (v2c4, v3c4)) → lv_has ls 4 [(0, .ref q_this), (1, .int p1), (2, .int v2c4), (3, .int v3c4)] → W p l e rm_State_familyBits s m args below meth c s.heap [] 0 0 Q (F0 m 4 ls []) := by
    intro n4
    induction n4 with
    | zero => intro v2c4 v3c4 ls i_v2c4 i_v3c4 hm4 hR hl; exact absurd hm4 (Nat.not_lt_zero _)
    | succ n4 ih4 =>
      intro v2c4 v3c4 ls i_v2c4 i_v3c4 hm4 hR hl
      replace hR : uy_Q R (uy_E (fun z : (Int32) => z) (m_State_familyBits_k4 x_this_people f_this_family p1)) (m_State_familyBits_b4 x_this_people f_this_family p1 v2c4 v3c4) := uy_whs hR
      have K28 : ∀ (v2c28 v3c28 : Int32) (ls : Array Slot), iv v2c28 0 255 → iv v3c28 0 7 → (8 - v3c28.toInt).toNat < n4 + 1 → uy_Q R (uy_E (fun z : (Int32) => z) (m_State_familyBits_k4 x_this_people f_this_family p1)) (m_State_familyBits_k28 x_this_people f_this_family p1 v2c28 v3c28) → lv_has ls 4 [(0, .ref q_this), (1, .int p1), (2, .int v2c28), (3, .int v3c28)] → W p l e rm_State_familyBits s m args below meth c s.heap [] 0 0 Q (F0 m 28 ls []) := by
        intro v2c28 v3c28 ls i_v2c28 i_v3c28 hm4 hR hl
        delta m_State_familyBits_k28 at hR
        obtain ⟨x1, ex1⟩ : ∃ z : Int32, z = v3c28 + (1 : Int32) := ⟨_, rfl⟩
        refine lv_iinc (v := x1) (lv' := [(3, .int x1), (0, .ref q_this), (1, .int p1), (2, .int v2c28)]) hx hb dX8_familyBits_28 hl (k := 3) rfl (by rw [ex1]; rfl) (by decide) rfl (fun ls hl => ?_)
        replace hR := uy_Ls ex1 hR
        have i_x1 : iv x1 1 8 := iv_add ex1 i_v3c28 (iv_lit (1 : Int32) (by decide) : iv (1 : Int32) 1 1) (by decide) (by decide) (by decide) (by decide)
        refine lv_goto (tgt := 4) hx hb dX8_familyBits_31 (by decide) ?_
        exact ih4 v2c28 x1 ls i_v2c28 (iv_w i_x1 (by decide) (by decide)) (ms_up ex1 i_v3c28 (by decide) (by decide) hm4) (uy_Ql hR) (lv_sub hl [1, 2, 3, 0] rfl)
      delta m_State_familyBits_b4 at hR
      refine lv_iload_n hx hb dX8_familyBits_4 rfl (lv_at hl 3 rfl) ?_
      refine lv_aload_n hx hb dX8_familyBits_5 rfl (lv_at hl 0 rfl) ?_
      refine va_get (D := D) (ci := 8) (v := .int x_this_people) (C := RX8) (T := TX8) (N := 9) hx hb hts hin_State hown hK hP 0 rfl rfl 1 (by decide) (hts (.fieldLink RX8 34 "GutterSeats$State" "people" "I") (List.mem_cons_of_mem _ (List.mem_append_left _ (List.mem_of_getElem? (i := 0) (by first | rfl | decide +kernel))))) (fun _ h9 => h9) rfl dX8_familyBits_6 ?_
      refine lv_icmp_ge (tgt := 34) hx hb dX8_familyBits_9 (by decide) (fun c2 => ?_) (fun c2 => ?_)
      ·
        replace hR := uy_Qp c2 hR
        refine lv_iload_n hx hb dX8_familyBits_34 rfl (lv_at hl 2 rfl) ?_
        exact hE _ _ _ ((uy_Q0 (uy_Qr hR)).symm.trans hRe) dX8_familyBits_35
      ·
        replace hR := uy_Qn c2 hR
        have j3 : iv v3c4 0 7 := iv_ltL (iv_nle c2) i_v3c4 i_x_this_people (by decide)
        have j4 : iv x_this_people 1 8 := iv_ltR (iv_nle c2) i_v3c4 i_x_this_people (by decide)
        refine lv_aload_n hx hb dX8_familyBits_12 rfl (lv_at hl 0 rfl) ?_
        refine va_get (D := D) (ci := 8) (v := .ref q_this_family) (C := RX8) (T := TX8) (N := 9) hx hb hts hin_State hown hK hP 0 rfl rfl 7 (by decide) (hts (.fieldLink RX8 24 "GutterSeats$State" "family" "[I") (List.mem_cons_of_mem _ (List.mem_append_left _ (List.mem_of_getElem? (i := 1) (by first | rfl | decide +kernel))))) (fun _ h9 => h9) rfl dX8_familyBits_13 ?_
        refine lv_iload_n hx hb dX8_familyBits_16 rfl (lv_at hl 3 rfl) ?_
        have n5 : vp_in v3c4 8 := iv_in j3 (by decide) (by decide)
        refine va_iald hx hb hK hP 5 0 rfl rfl n5 dX8_familyBits_17 ?_
        refine lv_topi (fun x6 ex6 => ?_)
        replace hR := uy_Ls ex6 hR
        refine lv_iload_n hx hb dX8_familyBits_18 rfl (lv_at hl 1 rfl) ?_
        refine lv_icmp_ne (tgt := 28) hx hb dX8_familyBits_19 (by decide) (fun c7 => ?_) (fun c7 => ?_)
        ·
          replace hR := uy_Qn c7 hR
          exact K28 v2c4 v3c4 ls i_v2c4 j3 hm4 hR (lv_sub hl [0, 1, 2, 3] rfl)
        ·
          replace hR := uy_Qp c7 hR
          refine lv_iload_n hx hb dX8_familyBits_22 rfl (lv_at hl 2 rfl) ?_
          refine lv_iconst (v := 1) hx hb dX8_familyBits_23 (by decide) ?_
          refine lv_iload_n hx hb dX8_familyBits_24 rfl (lv_at hl 3 rfl) ?_
          refine lv_ishl hx hb dX8_familyBits_25 ?_
          refine lv_topi (fun x8 ex8 => ?_)
          replace hR := uy_Ls ex8 hR
          have i_x8 : iv x8 1 128 := iv_shl1 ex8 j3 (by decide) (by decide) (by decide) (by decide)
          refine lv_ior hx hb dX8_familyBits_26 ?_
          refine lv_topi (fun x9 ex9 => ?_)
          replace hR := uy_Ls ex9 hR
          have i_x9 : iv x9 0 255 := iv_or 8 ex9 (iv_w i_v2c4 (by decide) (by decide) : iv _ 0 255) (iv_w i_x8 (by decide) (by decide) : iv _ 0 128) (by decide) (by decide) (by decide)
          refine lv_istore_n (lv' := [(2, .int x9), (0, .ref q_this), (1, .int p1), (3, .int v3c4)]) hx hb dX8_familyBits_27 rfl hl (by decide) rfl (fun ls hl => ?_)
          exact K28 x9 v3c4 ls i_x9 j3 hm4 hR (lv_sub hl [1, 2, 0, 3] rfl)
  delta m_State_familyBits at hR
  refine lv_iconst (v := 0) hx hb dX8_familyBits_0 (by decide) ?_
  refine lv_istore_n (lv' := [(2, .int (0 : Int32)), (0, .ref q_this), (1, .int p1)]) hx hb dX8_familyBits_1 rfl hl (by decide) rfl (fun ls hl => ?_)
  refine lv_iconst (v := 0) hx hb dX8_familyBits_2 (by decide) ?_
  refine lv_istore_n (lv' := [(3, .int (0 : Int32)), (2, .int (0 : Int32)), (0, .ref q_this), (1, .int p1)]) hx hb dX8_familyBits_3 rfl hl (by decide) rfl (fun ls hl => ?_)
  exact K4 _ (0 : Int32) (0 : Int32) ls (iv_lit (0 : Int32) (by decide) : iv (0 : Int32) 0 255) (iv_lit (0 : Int32) (by decide) : iv (0 : Int32) 0 8) (Nat.lt_succ_self _) hR (lv_sub hl [2, 3, 1, 0] rfl)
abbrev rm_State_homeBits : Room := { frames := 0, cells := 0, slots := 0, locals := 0 }
set_option maxHeartbeats 4000000 in
set_option maxRecDepth 100000 in
theorem c_State_homeBits (l : Launch) (D : va_G) (ct : Nat → ClassId) (q_this q_this_jaw q_this_brow q_this_stone q_this_age q_this_family q_this_seat : Nat) (x_this_gargoyles x_this_people x_this_year : Int32) (f_this_jaw f_this_brow f_this_stone f_this_age f_this_family f_this_seat : Nat → Int32) (i_x_this_gargoyles : iv x_this_gargoyles 0 8) (i_x_this_people : iv x_this_people 0 8) (i_x_this_year : iv x_this_year 0 5000) (a_f_this_seat : av f_this_seat 8 (-1) 7) : cP l yX8_homeBits wsX8_homeBits rm_State_homeBits D ct [(q_this, .inr (8, [.int x_this_gargoyles, .int x_this_people, .int x_this_year, .ref q_this_jaw, .ref q_this_brow, .ref q_this_stone, .ref q_this_age, .ref q_this_family, .ref q_this_seat])), (q_this_jaw, .inl (ct 0, 16, .inl f_this_jaw)), (q_this_brow, .inl (ct 0, 16, .inl f_this_brow)), (q_this_stone, .inl (ct 0, 8, .inl f_this_stone)), (q_this_age, .inl (ct 0, 8, .inl f_this_age)), (q_this_family, .inl (ct 0, 8, .inl f_this_family)), (q_this_seat, .inl (ct 0, 8, .inl f_this_seat))] [.ref q_this] (fun r : Int32 => r = m_State_homeBits x_this_people f_this_family f_this_seat) := by
  refine cP_of (cc := cX8_homeBits) (maxL := 3) (by decide) rfl (Nat.le_of_ble_eq_true rfl) ?_
  intro p e s m args below meth c Q hx hb hml hts hown hK hP hE ls hl
  have hl : lv_has ls 3 [(0, .ref q_this)] := hl
  obtain ⟨R, hRe⟩ : ∃ R : (Int32), R = m_State_homeBits x_this_people f_this_family f_this_seat := ⟨_, rfl⟩
  have hR : uy_Q R (fun z : (Int32) => z) (m_State_homeBits x_this_people f_this_family f_this_seat) := hRe
  have hin_State : ∀ w ∈ u_ws RX8 TX8 9, w ∈ wsX8_homeBits := fun w h => List.mem_cons_of_mem _ (List.mem_append_right _ (h))
  have K4 : ∀ (n4 : Nat) (v1c4 v2c4 : Int32) (ls : Array Slot), iv v1c4 0 255 → iv v2c4 0 8 → (8 - v2c4.toInt).toNat < n4 → uy_Q R (fun z : (Int32) => z) (m_State_homeBits_k4 x_this_people f_this_family f_this_seat (v1c4, v2c4)) → lv_has ls 3 [(0, .ref q_this), (1, .int v1c4), (2, .int v2c4)] → W p l e rm_State_homeBits s m args below meth c s.heap [] 0 0 Q (F0 m 4 ls []) := by
    intro n4
    induction n4 with
    | zero => intro v1c4 v2c4 ls i_v1c4 i_v2c4 hm4 hR hl; exact absurd hm4 (Nat.not_lt_zero _)
    | succ n4 ih4 =>
      intro v1c4 v2c4 ls i_v1c4 i_v2c4 hm4 hR hl
      replace hR : uy_Q R (uy_E (fun z : (Int32) => z) (m_State_homeBits_k4 x_this_people f_this_family f_this_seat)) (m_State_homeBits_b4 x_this_people f_this_family f_this_seat v1c4 v2c4) := uy_whs hR
      have K43 : ∀ (v1c43 v2c43 : Int32) (ls : Array Slot), iv v1c43 0 255 → iv v2c43 0 7 → (8 - v2c43.toInt).toNat < n4 + 1 → uy_Q R (uy_E (fun z : (Int32) => z) (m_State_homeBits_k4 x_this_people f_this_family f_this_seat)) (m_State_homeBits_k43 x_this_people f_this_family f_this_seat v1c43 v2c43) → lv_has ls 3 [(0, .ref q_this), (1, .int v1c43), (2, .int v2c43)] → W p l e rm_State_homeBits s m args below meth c s.heap [] 0 0 Q (F0 m 43 ls []) := by
        intro v1c43 v2c43 ls i_v1c43 i_v2c43 hm4 hR hl
        delta m_State_homeBits_k43 at hR
        obtain ⟨x1, ex1⟩ : ∃ z : Int32, z = v2c43 + (1 : Int32) := ⟨_, rfl⟩
        refine lv_iinc (v := x1) (lv' := [(2, .int x1), (0, .ref q_this), (1, .int v1c43)]) hx hb dX8_homeBits_43 hl (k := 2) rfl (by rw [ex1]; rfl) (by decide) rfl (fun ls hl => ?_)
        replace hR := uy_Ls ex1 hR
        have i_x1 : iv x1 1 8 := iv_add ex1 i_v2c43 (iv_lit (1 : Int32) (by decide) : iv (1 : Int32) 1 1) (by decide) (by decide) (by decide) (by decide)
        refine lv_goto (tgt := 4) hx hb dX8_homeBits_46 (by decide) ?_
        exact ih4 v1c43 x1 ls i_v1c43 (iv_w i_x1 (by decide) (by decide)) (ms_up ex1 i_v2c43 (by decide) (by decide) hm4) (uy_Ql hR) (lv_sub hl [1, 2, 0] rfl)
      delta m_State_homeBits_b4 at hR
      refine lv_iload_n hx hb dX8_homeBits_4 rfl (lv_at hl 2 rfl) ?_
      refine lv_aload_n hx hb dX8_homeBits_5 rfl (lv_at hl 0 rfl) ?_
      refine va_get (D := D) (ci := 8) (v := .int x_this_people) (C := RX8) (T := TX8) (N := 9) hx hb hts hin_State hown hK hP 0 rfl rfl 1 (by decide) (hts (.fieldLink RX8 34 "GutterSeats$State" "people" "I") (List.mem_cons_of_mem _ (List.mem_append_left _ (List.mem_of_getElem? (i := 0) (by first | rfl | decide +kernel))))) (fun _ h9 => h9) rfl dX8_homeBits_6 ?_
      refine lv_icmp_ge (tgt := 49) hx hb dX8_homeBits_9 (by decide) (fun c2 => ?_) (fun c2 => ?_)
      ·
        replace hR := uy_Qp c2 hR
        refine lv_iload_n hx hb dX8_homeBits_49 rfl (lv_at hl 1 rfl) ?_
        exact hE _ _ _ ((uy_Q0 (uy_Qr hR)).symm.trans hRe) dX8_homeBits_50
      ·
        replace hR := uy_Qn c2 hR
        have j3 : iv v2c4 0 7 := iv_ltL (iv_nle c2) i_v2c4 i_x_this_people (by decide)
        have j4 : iv x_this_people 1 8 := iv_ltR (iv_nle c2) i_v2c4 i_x_this_people (by decide)
        refine lv_aload_n hx hb dX8_homeBits_12 rfl (lv_at hl 0 rfl) ?_
        refine va_get (D := D) (ci := 8) (v := .ref q_this_seat) (C := RX8) (T := TX8) (N := 9) hx hb hts hin_State hown hK hP 0 rfl rfl 8 (by decide) (hts (.fieldLink RX8 27 "GutterSeats$State" "seat" "[I") (List.mem_cons_of_mem _ (List.mem_append_left _ (List.mem_of_getElem? (i := 1) (by first | rfl | decide +kernel))))) (fun _ h9 => h9) rfl dX8_homeBits_13 ?_
        refine lv_iload_n hx hb dX8_homeBits_16 rfl (lv_at hl 2 rfl) ?_
        have n5 : vp_in v2c4 8 := iv_in j3 (by decide) (by decide)
        refine va_iald hx hb hK hP 6 0 rfl rfl n5 dX8_homeBits_17 ?_
        refine lv_topi (fun x6 ex6 => ?_)
        replace hR := uy_Ls ex6 hR
        have i_x6 : iv x6 (-1) 7 := by rw [ex6]; exact av_get a_f_this_seat n5
        refine lv_iconst (v := -1) hx hb dX8_homeBits_18 (by decide) ?_
        refine lv_icmp_eq (tgt := 43) hx hb dX8_homeBits_19 (by decide) (fun c7 => ?_) (fun c7 => ?_)
        ·
          replace hR := uy_Qp c7 hR
          have j8 : iv x6 (-1) (-1) := by rw [c7]; exact (iv_lit (-1 : Int32) (by decide) : iv (-1 : Int32) (-1) (-1))
          exact K43 v1c4 v2c4 ls i_v1c4 j3 hm4 hR (lv_sub hl [0, 1, 2] rfl)
        ·
          replace hR := uy_Qn c7 hR
          have j9 : iv x6 0 7 := iv_neL c7 i_x6 rfl (by decide)
          refine lv_aload_n hx hb dX8_homeBits_22 rfl (lv_at hl 0 rfl) ?_
          refine va_get (D := D) (ci := 8) (v := .ref q_this_seat) (C := RX8) (T := TX8) (N := 9) hx hb hts hin_State hown hK hP 0 rfl rfl 8 (by decide) (hts (.fieldLink RX8 27 "GutterSeats$State" "seat" "[I") (List.mem_cons_of_mem _ (List.mem_append_left _ (List.mem_of_getElem? (i := 1) (by first | rfl | decide +kernel))))) (fun _ h9 => h9) rfl dX8_homeBits_23 ?_
          refine lv_iload_n hx hb dX8_homeBits_26 rfl (lv_at hl 2 rfl) ?_
          have n10 : vp_in v2c4 8 := iv_in j3 (by decide) (by decide)
          refine va_iald hx hb hK hP 6 0 rfl rfl n10 dX8_homeBits_27 ?_
          refine lv_tope ex6.symm ?_
          refine lv_aload_n hx hb dX8_homeBits_28 rfl (lv_at hl 0 rfl) ?_
          refine va_get (D := D) (ci := 8) (v := .ref q_this_family) (C := RX8) (T := TX8) (N := 9) hx hb hts hin_State hown hK hP 0 rfl rfl 7 (by decide) (hts (.fieldLink RX8 24 "GutterSeats$State" "family" "[I") (List.mem_cons_of_mem _ (List.mem_append_left _ (List.mem_of_getElem? (i := 2) (by first | rfl | decide +kernel))))) (fun _ h9 => h9) rfl dX8_homeBits_29 ?_
          refine lv_iload_n hx hb dX8_homeBits_32 rfl (lv_at hl 2 rfl) ?_
          have n11 : vp_in v2c4 8 := iv_in j3 (by decide) (by decide)
          refine va_iald hx hb hK hP 5 0 rfl rfl n11 dX8_homeBits_33 ?_
          refine lv_topi (fun x12 ex12 => ?_)
          replace hR := uy_Ls ex12 hR
          refine lv_icmp_ne (tgt := 43) hx hb dX8_homeBits_34 (by decide) (fun c13 => ?_) (fun c13 => ?_)
          ·
            replace hR := uy_Qn c13 hR
            exact K43 v1c4 v2c4 ls i_v1c4 j3 hm4 hR (lv_sub hl [0, 1, 2] rfl)
          ·
            replace hR := uy_Qp c13 hR
            have j14 : iv x12 0 7 := by rw [← c13]; exact j9
            refine lv_iload_n hx hb dX8_homeBits_37 rfl (lv_at hl 1 rfl) ?_
            refine lv_iconst (v := 1) hx hb dX8_homeBits_38 (by decide) ?_
            refine lv_iload_n hx hb dX8_homeBits_39 rfl (lv_at hl 2 rfl) ?_
            refine lv_ishl hx hb dX8_homeBits_40 ?_
            refine lv_topi (fun x15 ex15 => ?_)
            replace hR := uy_Ls ex15 hR
            have i_x15 : iv x15 1 128 := iv_shl1 ex15 j3 (by decide) (by decide) (by decide) (by decide)
            refine lv_ior hx hb dX8_homeBits_41 ?_
            refine lv_topi (fun x16 ex16 => ?_)
            replace hR := uy_Ls ex16 hR
            have i_x16 : iv x16 0 255 := iv_or 8 ex16 (iv_w i_v1c4 (by decide) (by decide) : iv _ 0 255) (iv_w i_x15 (by decide) (by decide) : iv _ 0 128) (by decide) (by decide) (by decide)
            refine lv_istore_n (lv' := [(1, .int x16), (0, .ref q_this), (2, .int v2c4)]) hx hb dX8_homeBits_42 rfl hl (by decide) rfl (fun ls hl => ?_)
            exact K43 x16 v2c4 ls i_x16 j3 hm4 hR (lv_sub hl [1, 0, 2] rfl)
  delta m_State_homeBits at hR
  refine lv_iconst (v := 0) hx hb dX8_homeBits_0 (by decide) ?_
  refine lv_istore_n (lv' := [(1, .int (0 : Int32)), (0, .ref q_this)]) hx hb dX8_homeBits_1 rfl hl (by decide) rfl (fun ls hl => ?_)
  refine lv_iconst (v := 0) hx hb dX8_homeBits_2 (by decide) ?_
  refine lv_istore_n (lv' := [(2, .int (0 : Int32)), (1, .int (0 : Int32)), (0, .ref q_this)]) hx hb dX8_homeBits_3 rfl hl (by decide) rfl (fun ls hl => ?_)
  exact K4 _ (0 : Int32) (0 : Int32) ls (iv_lit (0 : Int32) (by decide) : iv (0 : Int32) 0 255) (iv_lit (0 : Int32) (by decide) : iv (0 : Int32) 0 8) (Nat.lt_succ_self _) hR (lv_sub hl [2, 1, 0] rfl)
abbrev rm_State_loafBits : Room := { frames := 0, cells := 0, slots := 0, locals := 0 }
set_option maxHeartbeats 4000000 in
set_option maxRecDepth 100000 in
theorem c_State_loafBits (l : Launch) (D : va_G) (ct : Nat → ClassId) (q_this q_this_jaw q_this_brow q_this_stone q_this_age q_this_family q_this_seat : Nat) (x_this_gargoyles x_this_people x_this_year : Int32) (f_this_jaw f_this_brow f_this_stone f_this_age f_this_family f_this_seat : Nat → Int32) (i_x_this_gargoyles : iv x_this_gargoyles 0 8) (i_x_this_people : iv x_this_people 0 8) (i_x_this_year : iv x_this_year 0 5000) (a_f_this_seat : av f_this_seat 8 (-1) 7) : cP l yX8_loafBits wsX8_loafBits rm_State_loafBits D ct [(q_this, .inr (8, [.int x_this_gargoyles, .int x_this_people, .int x_this_year, .ref q_this_jaw, .ref q_this_brow, .ref q_this_stone, .ref q_this_age, .ref q_this_family, .ref q_this_seat])), (q_this_jaw, .inl (ct 0, 16, .inl f_this_jaw)), (q_this_brow, .inl (ct 0, 16, .inl f_this_brow)), (q_this_stone, .inl (ct 0, 8, .inl f_this_stone)), (q_this_age, .inl (ct 0, 8, .inl f_this_age)), (q_this_family, .inl (ct 0, 8, .inl f_this_family)), (q_this_seat, .inl (ct 0, 8, .inl f_this_seat))] [.ref q_this] (fun r : Int32 => r = m_State_loafBits x_this_gargoyles f_this_stone) := by
  refine cP_of (cc := cX8_loafBits) (maxL := 3) (by decide) rfl (Nat.le_of_ble_eq_true rfl) ?_
  intro p e s m args below meth c Q hx hb hml hts hown hK hP hE ls hl
  have hl : lv_has ls 3 [(0, .ref q_this)] := hl
  obtain ⟨R, hRe⟩ : ∃ R : (Int32), R = m_State_loafBits x_this_gargoyles f_this_stone := ⟨_, rfl⟩
  have hR : uy_Q R (fun z : (Int32) => z) (m_State_loafBits x_this_gargoyles f_this_stone) := hRe
  have hin_State : ∀ w ∈ u_ws RX8 TX8 9, w ∈ wsX8_loafBits := fun w h => List.mem_cons_of_mem _ (List.mem_append_right _ (h))
  have K4 : ∀ (n4 : Nat) (v1c4 v2c4 : Int32) (ls : Array Slot), iv v1c4 0 255 → iv v2c4 0 8 → (8 - v2c4.toInt).toNat < n4 → uy_Q R (fun z : (Int32) => z) (m_State_loafBits_k4 x_this_gargoyles f_this_stone (v1c4, v2c4)) → lv_has ls 3 [(0, .ref q_this), (1, .int v1c4), (2, .int v2c4)] → W p l e rm_State_loafBits s m args below meth c s.heap [] 0 0 Q (F0 m 4 ls []) := by
    intro n4
    induction n4 with
    | zero => intro v1c4 v2c4 ls i_v1c4 i_v2c4 hm4 hR hl; exact absurd hm4 (Nat.not_lt_zero _)
    | succ n4 ih4 =>
      intro v1c4 v2c4 ls i_v1c4 i_v2c4 hm4 hR hl
      replace hR : uy_Q R (uy_E (fun z : (Int32) => z) (m_State_loafBits_k4 x_this_gargoyles f_this_stone)) (m_State_loafBits_b4 x_this_gargoyles f_this_stone v1c4 v2c4) := uy_whs hR
      have K27 : ∀ (v1c27 v2c27 : Int32) (ls : Array Slot), iv v1c27 0 255 → iv v2c27 0 7 → (8 - v2c27.toInt).toNat < n4 + 1 → uy_Q R (uy_E (fun z : (Int32) => z) (m_State_loafBits_k4 x_this_gargoyles f_this_stone)) (m_State_loafBits_k27 x_this_gargoyles f_this_stone v1c27 v2c27) → lv_has ls 3 [(0, .ref q_this), (1, .int v1c27), (2, .int v2c27)] → W p l e rm_State_loafBits s m args below meth c s.heap [] 0 0 Q (F0 m 27 ls []) := by
        intro v1c27 v2c27 ls i_v1c27 i_v2c27 hm4 hR hl
        delta m_State_loafBits_k27 at hR
        obtain ⟨x1, ex1⟩ : ∃ z : Int32, z = v2c27 + (1 : Int32) := ⟨_, rfl⟩
        refine lv_iinc (v := x1) (lv' := [(2, .int x1), (0, .ref q_this), (1, .int v1c27)]) hx hb dX8_loafBits_27 hl (k := 2) rfl (by rw [ex1]; rfl) (by decide) rfl (fun ls hl => ?_)
        replace hR := uy_Ls ex1 hR
        have i_x1 : iv x1 1 8 := iv_add ex1 i_v2c27 (iv_lit (1 : Int32) (by decide) : iv (1 : Int32) 1 1) (by decide) (by decide) (by decide) (by decide)
        refine lv_goto (tgt := 4) hx hb dX8_loafBits_30 (by decide) ?_
        exact ih4 v1c27 x1 ls i_v1c27 (iv_w i_x1 (by decide) (by decide)) (ms_up ex1 i_v2c27 (by decide) (by decide) hm4) (uy_Ql hR) (lv_sub hl [1, 2, 0] rfl)
      delta m_State_loafBits_b4 at hR
      refine lv_iload_n hx hb dX8_loafBits_4 rfl (lv_at hl 2 rfl) ?_
      refine lv_aload_n hx hb dX8_loafBits_5 rfl (lv_at hl 0 rfl) ?_
      refine va_get (D := D) (ci := 8) (v := .int x_this_gargoyles) (C := RX8) (T := TX8) (N := 9) hx hb hts hin_State hown hK hP 0 rfl rfl 0 (by decide) (hts (.fieldLink RX8 30 "GutterSeats$State" "gargoyles" "I") (List.mem_cons_of_mem _ (List.mem_append_left _ (List.mem_of_getElem? (i := 0) (by first | rfl | decide +kernel))))) (fun _ h9 => h9) rfl dX8_loafBits_6 ?_
      refine lv_icmp_ge (tgt := 33) hx hb dX8_loafBits_9 (by decide) (fun c2 => ?_) (fun c2 => ?_)
      ·
        replace hR := uy_Qp c2 hR
        refine lv_iload_n hx hb dX8_loafBits_33 rfl (lv_at hl 1 rfl) ?_
        exact hE _ _ _ ((uy_Q0 (uy_Qr hR)).symm.trans hRe) dX8_loafBits_34
      ·
        replace hR := uy_Qn c2 hR
        have j3 : iv v2c4 0 7 := iv_ltL (iv_nle c2) i_v2c4 i_x_this_gargoyles (by decide)
        have j4 : iv x_this_gargoyles 1 8 := iv_ltR (iv_nle c2) i_v2c4 i_x_this_gargoyles (by decide)
        refine lv_aload_n hx hb dX8_loafBits_12 rfl (lv_at hl 0 rfl) ?_
        refine va_get (D := D) (ci := 8) (v := .ref q_this_stone) (C := RX8) (T := TX8) (N := 9) hx hb hts hin_State hown hK hP 0 rfl rfl 5 (by decide) (hts (.fieldLink RX8 18 "GutterSeats$State" "stone" "[I") (List.mem_cons_of_mem _ (List.mem_append_left _ (List.mem_of_getElem? (i := 1) (by first | rfl | decide +kernel))))) (fun _ h9 => h9) rfl dX8_loafBits_13 ?_
        refine lv_iload_n hx hb dX8_loafBits_16 rfl (lv_at hl 2 rfl) ?_
        have n5 : vp_in v2c4 8 := iv_in j3 (by decide) (by decide)
        refine va_iald hx hb hK hP 3 0 rfl rfl n5 dX8_loafBits_17 ?_
        refine lv_topi (fun x6 ex6 => ?_)
        replace hR := uy_Ls ex6 hR
        refine lv_if_ne (tgt := 27) hx hb dX8_loafBits_18 (by decide) (fun c7 => ?_) (fun c7 => ?_)
        ·
          replace hR := uy_Qn c7 hR
          exact K27 v1c4 v2c4 ls i_v1c4 j3 hm4 hR (lv_sub hl [0, 1, 2] rfl)
        ·
          replace hR := uy_Qp c7 hR
          have j8 : iv x6 0 0 := by rw [c7]; exact (iv_lit (0 : Int32) (by decide) : iv (0 : Int32) 0 0)
          refine lv_iload_n hx hb dX8_loafBits_21 rfl (lv_at hl 1 rfl) ?_
          refine lv_iconst (v := 1) hx hb dX8_loafBits_22 (by decide) ?_
          refine lv_iload_n hx hb dX8_loafBits_23 rfl (lv_at hl 2 rfl) ?_
          refine lv_ishl hx hb dX8_loafBits_24 ?_
          refine lv_topi (fun x9 ex9 => ?_)
          replace hR := uy_Ls ex9 hR
          have i_x9 : iv x9 1 128 := iv_shl1 ex9 j3 (by decide) (by decide) (by decide) (by decide)
          refine lv_ior hx hb dX8_loafBits_25 ?_
          refine lv_topi (fun x10 ex10 => ?_)
          replace hR := uy_Ls ex10 hR
          have i_x10 : iv x10 0 255 := iv_or 8 ex10 (iv_w i_v1c4 (by decide) (by decide) : iv _ 0 255) (iv_w i_x9 (by decide) (by decide) : iv _ 0 128) (by decide) (by decide) (by decide)
          refine lv_istore_n (lv' := [(1, .int x10), (0, .ref q_this), (2, .int v2c4)]) hx hb dX8_loafBits_26 rfl hl (by decide) rfl (fun ls hl => ?_)
          exact K27 x10 v2c4 ls i_x10 j3 hm4 hR (lv_sub hl [1, 0, 2] rfl)
  delta m_State_loafBits at hR
  refine lv_iconst (v := 0) hx hb dX8_loafBits_0 (by decide) ?_
  refine lv_istore_n (lv' := [(1, .int (0 : Int32)), (0, .ref q_this)]) hx hb dX8_loafBits_1 rfl hl (by decide) rfl (fun ls hl => ?_)
  refine lv_iconst (v := 0) hx hb dX8_loafBits_2 (by decide) ?_
  refine lv_istore_n (lv' := [(2, .int (0 : Int32)), (1, .int (0 : Int32)), (0, .ref q_this)]) hx hb dX8_loafBits_3 rfl hl (by decide) rfl (fun ls hl => ?_)
  exact K4 _ (0 : Int32) (0 : Int32) ls (iv_lit (0 : Int32) (by decide) : iv (0 : Int32) 0 255) (iv_lit (0 : Int32) (by decide) : iv (0 : Int32) 0 8) (Nat.lt_succ_self _) hR (lv_sub hl [2, 1, 0] rfl)
abbrev rm_State_stoneOfAll : Room := { frames := 0, cells := 0, slots := 0, locals := 0 }
set_option maxHeartbeats 4000000 in
set_option maxRecDepth 100000 in
theorem c_State_stoneOfAll (l : Launch) (D : va_G) (ct : Nat → ClassId) (q_this q_this_jaw q_this_brow q_this_stone q_this_age q_this_family q_this_seat : Nat) (x_this_gargoyles x_this_people x_this_year : Int32) (f_this_jaw f_this_brow f_this_stone f_this_age f_this_family f_this_seat : Nat → Int32) (i_x_this_gargoyles : iv x_this_gargoyles 0 8) (i_x_this_people : iv x_this_people 0 8) (i_x_this_year : iv x_this_year 0 5000) (a_f_this_seat : av f_this_seat 8 (-1) 7) : cP l yX8_stoneOfAll wsX8_stoneOfAll rm_State_stoneOfAll D ct [(q_this, .inr (8, [.int x_this_gargoyles, .int x_this_people, .int x_this_year, .ref q_this_jaw, .ref q_this_brow, .ref q_this_stone, .ref q_this_age, .ref q_this_family, .ref q_this_seat])), (q_this_jaw, .inl (ct 0, 16, .inl f_this_jaw)), (q_this_brow, .inl (ct 0, 16, .inl f_this_brow)), (q_this_stone, .inl (ct 0, 8, .inl f_this_stone)), (q_this_age, .inl (ct 0, 8, .inl f_this_age)), (q_this_family, .inl (ct 0, 8, .inl f_this_family)), (q_this_seat, .inl (ct 0, 8, .inl f_this_seat))] [.ref q_this] (fun r : Int32 => r = m_State_stoneOfAll x_this_gargoyles f_this_stone) := by
  refine cP_of (cc := cX8_stoneOfAll) (maxL := 3) (by decide) rfl (Nat.le_of_ble_eq_true rfl) ?_
  intro p e s m args below meth c Q hx hb hml hts hown hK hP hE ls hl
  have hl : lv_has ls 3 [(0, .ref q_this)] := hl
  obtain ⟨R, hRe⟩ : ∃ R : (Int32), R = m_State_stoneOfAll x_this_gargoyles f_this_stone := ⟨_, rfl⟩
  have hR : uy_Q R (fun z : (Int32) => z) (m_State_stoneOfAll x_this_gargoyles f_this_stone) := hRe
  have hin_State : ∀ w ∈ u_ws RX8 TX8 9, w ∈ wsX8_stoneOfAll := fun w h => List.mem_cons_of_mem _ (List.mem_append_right _ (h))
  have K4 : ∀ (n4 : Nat) (v1c4 v2c4 : Int32) (ls : Array Slot), iv v2c4 0 8 → (8 - v2c4.toInt).toNat < n4 → uy_Q R (fun z : (Int32) => z) (m_State_stoneOfAll_k4 x_this_gargoyles f_this_stone (v1c4, v2c4)) → lv_has ls 3 [(0, .ref q_this), (1, .int v1c4), (2, .int v2c4)] → W p l e rm_State_stoneOfAll s m args below meth c s.heap [] 0 0 Q (F0 m 4 ls []) := by
    intro n4
    induction n4 with
    | zero => intro v1c4 v2c4 ls i_v2c4 hm4 hR hl; exact absurd hm4 (Nat.not_lt_zero _)
    | succ n4 ih4 =>
      intro v1c4 v2c4 ls i_v2c4 hm4 hR hl
      replace hR : uy_Q R (uy_E (fun z : (Int32) => z) (m_State_stoneOfAll_k4 x_this_gargoyles f_this_stone)) (m_State_stoneOfAll_b4 x_this_gargoyles f_this_stone v1c4 v2c4) := uy_whs hR
      delta m_State_stoneOfAll_b4 at hR
      refine lv_iload_n hx hb dX8_stoneOfAll_4 rfl (lv_at hl 2 rfl) ?_
      refine lv_aload_n hx hb dX8_stoneOfAll_5 rfl (lv_at hl 0 rfl) ?_
      refine va_get (D := D) (ci := 8) (v := .int x_this_gargoyles) (C := RX8) (T := TX8) (N := 9) hx hb hts hin_State hown hK hP 0 rfl rfl 0 (by decide) (hts (.fieldLink RX8 30 "GutterSeats$State" "gargoyles" "I") (List.mem_cons_of_mem _ (List.mem_append_left _ (List.mem_of_getElem? (i := 0) (by first | rfl | decide +kernel))))) (fun _ h9 => h9) rfl dX8_stoneOfAll_6 ?_
      refine lv_icmp_ge (tgt := 27) hx hb dX8_stoneOfAll_9 (by decide) (fun c1 => ?_) (fun c1 => ?_)
      ·
        replace hR := uy_Qp c1 hR
        refine lv_iload_n hx hb dX8_stoneOfAll_27 rfl (lv_at hl 1 rfl) ?_
        exact hE _ _ _ ((uy_Q0 (uy_Qr hR)).symm.trans hRe) dX8_stoneOfAll_28
      ·
        replace hR := uy_Qn c1 hR
        have j2 : iv v2c4 0 7 := iv_ltL (iv_nle c1) i_v2c4 i_x_this_gargoyles (by decide)
        have j3 : iv x_this_gargoyles 1 8 := iv_ltR (iv_nle c1) i_v2c4 i_x_this_gargoyles (by decide)
        refine lv_iload_n hx hb dX8_stoneOfAll_12 rfl (lv_at hl 1 rfl) ?_
        refine lv_aload_n hx hb dX8_stoneOfAll_13 rfl (lv_at hl 0 rfl) ?_
        refine va_get (D := D) (ci := 8) (v := .ref q_this_stone) (C := RX8) (T := TX8) (N := 9) hx hb hts hin_State hown hK hP 0 rfl rfl 5 (by decide) (hts (.fieldLink RX8 18 "GutterSeats$State" "stone" "[I") (List.mem_cons_of_mem _ (List.mem_append_left _ (List.mem_of_getElem? (i := 1) (by first | rfl | decide +kernel))))) (fun _ h9 => h9) rfl dX8_stoneOfAll_14 ?_
        refine lv_iload_n hx hb dX8_stoneOfAll_17 rfl (lv_at hl 2 rfl) ?_
        have n4 : vp_in v2c4 8 := iv_in j2 (by decide) (by decide)
        refine va_iald hx hb hK hP 3 0 rfl rfl n4 dX8_stoneOfAll_18 ?_
        refine lv_topi (fun x5 ex5 => ?_)
        replace hR := uy_Ls ex5 hR
        refine lv_iadd hx hb dX8_stoneOfAll_19 ?_
        refine lv_topi (fun x6 ex6 => ?_)
        replace hR := uy_Ls ex6 hR
        refine lv_istore_n (lv' := [(1, .int x6), (0, .ref q_this), (2, .int v2c4)]) hx hb dX8_stoneOfAll_20 rfl hl (by decide) rfl (fun ls hl => ?_)
        obtain ⟨x7, ex7⟩ : ∃ z : Int32, z = v2c4 + (1 : Int32) := ⟨_, rfl⟩
        refine lv_iinc (v := x7) (lv' := [(2, .int x7), (1, .int x6), (0, .ref q_this)]) hx hb dX8_stoneOfAll_21 hl (k := 2) rfl (by rw [ex7]; rfl) (by decide) rfl (fun ls hl => ?_)
        replace hR := uy_Ls ex7 hR
        have i_x7 : iv x7 1 8 := iv_add ex7 j2 (iv_lit (1 : Int32) (by decide) : iv (1 : Int32) 1 1) (by decide) (by decide) (by decide) (by decide)
        refine lv_goto (tgt := 4) hx hb dX8_stoneOfAll_24 (by decide) ?_
        exact ih4 x6 x7 ls (iv_w i_x7 (by decide) (by decide)) (ms_up ex7 j2 (by decide) (by decide) hm4) (uy_Ql hR) (lv_sub hl [2, 1, 0] rfl)
  delta m_State_stoneOfAll at hR
  refine lv_iconst (v := 0) hx hb dX8_stoneOfAll_0 (by decide) ?_
  refine lv_istore_n (lv' := [(1, .int (0 : Int32)), (0, .ref q_this)]) hx hb dX8_stoneOfAll_1 rfl hl (by decide) rfl (fun ls hl => ?_)
  refine lv_iconst (v := 0) hx hb dX8_stoneOfAll_2 (by decide) ?_
  refine lv_istore_n (lv' := [(2, .int (0 : Int32)), (1, .int (0 : Int32)), (0, .ref q_this)]) hx hb dX8_stoneOfAll_3 rfl hl (by decide) rfl (fun ls hl => ?_)
  exact K4 _ (0 : Int32) (0 : Int32) ls (iv_lit (0 : Int32) (by decide) : iv (0 : Int32) 0 8) (Nat.lt_succ_self _) hR (lv_sub hl [2, 1, 0] rfl)
abbrev rm_State_twins : Room := { frames := 2, cells := 0, slots := 0, locals := 43 }
set_option maxHeartbeats 4000000 in
set_option maxRecDepth 100000 in
theorem c_State_twins (l : Launch) (D : va_G) (ct : Nat → ClassId) (q_this q_this_jaw q_this_brow q_this_stone q_this_age q_this_family q_this_seat : Nat) (x_this_gargoyles x_this_people x_this_year : Int32) (f_this_jaw f_this_brow f_this_stone f_this_age f_this_family f_this_seat : Nat → Int32) (i_x_this_gargoyles : iv x_this_gargoyles 0 8) (i_x_this_people : iv x_this_people 0 8) (i_x_this_year : iv x_this_year 0 5000) (a_f_this_seat : av f_this_seat 8 (-1) 7) : cP l yX8_twins wsX8_twins rm_State_twins D ct [(q_this, .inr (8, [.int x_this_gargoyles, .int x_this_people, .int x_this_year, .ref q_this_jaw, .ref q_this_brow, .ref q_this_stone, .ref q_this_age, .ref q_this_family, .ref q_this_seat])), (q_this_jaw, .inl (ct 0, 16, .inl f_this_jaw)), (q_this_brow, .inl (ct 0, 16, .inl f_this_brow)), (q_this_stone, .inl (ct 0, 8, .inl f_this_stone)), (q_this_age, .inl (ct 0, 8, .inl f_this_age)), (q_this_family, .inl (ct 0, 8, .inl f_this_family)), (q_this_seat, .inl (ct 0, 8, .inl f_this_seat))] [.ref q_this] (fun r : Int32 => r = m_State_twins x_this_people f_this_jaw f_this_brow) := by
  refine cP_of (cc := cX8_twins) (maxL := 4) (by decide) rfl (Nat.le_of_ble_eq_true rfl) ?_
  intro p e s m args below meth c Q hx hb hml hts hown hK hP hE ls hl
  have hl : lv_has ls 4 [(0, .ref q_this)] := hl
  obtain ⟨R, hRe⟩ : ∃ R : (Int32), R = m_State_twins x_this_people f_this_jaw f_this_brow := ⟨_, rfl⟩
  have hR : uy_Q R (fun z : (Int32) => z) (m_State_twins x_this_people f_this_jaw f_this_brow) := hRe
  have hin_State : ∀ w ∈ u_ws RX8 TX8 9, w ∈ wsX8_twins := fun w h => List.mem_cons_of_mem _ (List.mem_append_right _ (h))
  have K4 : ∀ (n4 : Nat) (v1c4 v2c4 : Int32) (ls : Array Slot), iv v2c4 0 8 → (8 - v2c4.toInt).toNat < n4 → uy_Q R (fun z : (Int32) => z) (m_State_twins_k4 x_this_people f_this_jaw f_this_brow (v1c4, v2c4)) → lv_has ls 4 [(0, .ref q_this), (1, .int v1c4), (2, .int v2c4)] → W p l e rm_State_twins s m args below meth c s.heap [] 0 0 Q (F0 m 4 ls []) := by
    intro n4
    induction n4 with
    | zero => intro v1c4 v2c4 ls i_v2c4 hm4 hR hl; exact absurd hm4 (Nat.not_lt_zero _)
    | succ n4 ih4 =>
      intro v1c4 v2c4 ls i_v2c4 hm4 hR hl
      replace hR : uy_Q R (uy_E (fun z : (Int32) => z) (m_State_twins_k4 x_this_people f_this_jaw f_this_brow)) (m_State_twins_b4 x_this_people f_this_jaw f_this_brow v1c4 v2c4) := uy_whs hR
      have K16 : ∀ (n16 : Nat) (v1c16 v2c16 v3c16 : Int32) (ls : Array Slot), iv v2c16 0 7 → iv v3c16 1 8 → (8 - v3c16.toInt).toNat < n16 → (8 - v2c16.toInt).toNat < n4 + 1 → uy_Q R (uy_E (fun z : (Int32) => z) (m_State_twins_k4 x_this_people f_this_jaw f_this_brow)) (m_State_twins_k16 x_this_people f_this_jaw f_this_brow (v1c16, v2c16, v3c16)) → lv_has ls 4 [(0, .ref q_this), (1, .int v1c16), (2, .int v2c16), (3, .int v3c16)] → W p l e rm_State_twins s m args below meth c s.heap [] 0 0 Q (F0 m 16 ls []) := by
        intro n16
        induction n16 with
        | zero => intro v1c16 v2c16 v3c16 ls i_v2c16 i_v3c16 hm16 hm4 hR hl; exact absurd hm16 (Nat.not_lt_zero _)
        | succ n16 ih16 =>
          intro v1c16 v2c16 v3c16 ls i_v2c16 i_v3c16 hm16 hm4 hR hl
          replace hR : uy_Q R (uy_E (uy_E (fun z : (Int32) => z) (m_State_twins_k4 x_this_people f_this_jaw f_this_brow)) (m_State_twins_k16 x_this_people f_this_jaw f_this_brow)) (m_State_twins_b16 x_this_people f_this_jaw f_this_brow v1c16 v2c16 v3c16) := uy_whs hR
          have K42 : ∀ (v1c42 v2c42 v3c42 : Int32) (ls : Array Slot), iv v2c42 0 7 → iv v3c42 1 7 → (8 - v3c42.toInt).toNat < n16 + 1 → (8 - v2c42.toInt).toNat < n4 + 1 → uy_Q R (uy_E (uy_E (fun z : (Int32) => z) (m_State_twins_k4 x_this_people f_this_jaw f_this_brow)) (m_State_twins_k16 x_this_people f_this_jaw f_this_brow)) (m_State_twins_k42 x_this_people f_this_jaw f_this_brow v1c42 v2c42 v3c42) → lv_has ls 4 [(0, .ref q_this), (1, .int v1c42), (2, .int v2c42), (3, .int v3c42)] → W p l e rm_State_twins s m args below meth c s.heap [] 0 0 Q (F0 m 42 ls []) := by
            intro v1c42 v2c42 v3c42 ls i_v2c42 i_v3c42 hm16 hm4 hR hl
            delta m_State_twins_k42 at hR
            obtain ⟨x1, ex1⟩ : ∃ z : Int32, z = v3c42 + (1 : Int32) := ⟨_, rfl⟩
            refine lv_iinc (v := x1) (lv' := [(3, .int x1), (0, .ref q_this), (1, .int v1c42), (2, .int v2c42)]) hx hb dX8_twins_42 hl (k := 3) rfl (by rw [ex1]; rfl) (by decide) rfl (fun ls hl => ?_)
            replace hR := uy_Ls ex1 hR
            have i_x1 : iv x1 2 8 := iv_add ex1 i_v3c42 (iv_lit (1 : Int32) (by decide) : iv (1 : Int32) 1 1) (by decide) (by decide) (by decide) (by decide)
            refine lv_goto (tgt := 16) hx hb dX8_twins_45 (by decide) ?_
            exact ih16 v1c42 v2c42 x1 ls i_v2c42 (iv_w i_x1 (by decide) (by decide)) (ms_up ex1 i_v3c42 (by decide) (by decide) hm16) hm4 (uy_Ql hR) (lv_sub hl [1, 2, 3, 0] rfl)
          delta m_State_twins_b16 at hR
          refine lv_iload_n hx hb dX8_twins_16 rfl (lv_at hl 3 rfl) ?_
          refine lv_aload_n hx hb dX8_twins_17 rfl (lv_at hl 0 rfl) ?_
          refine va_get (D := D) (ci := 8) (v := .int x_this_people) (C := RX8) (T := TX8) (N := 9) hx hb hts hin_State hown hK hP 0 rfl rfl 1 (by decide) (hts (.fieldLink RX8 34 "GutterSeats$State" "people" "I") (List.mem_cons_of_mem _ (List.mem_append_left _ (List.mem_of_getElem? (i := 0) (by first | rfl | decide +kernel))))) (fun _ h9 => h9) rfl dX8_twins_18 ?_
          refine lv_icmp_ge (tgt := 48) hx hb dX8_twins_21 (by decide) (fun c2 => ?_) (fun c2 => ?_)
          ·
            replace hR := uy_Qp c2 hR
            obtain ⟨x3, ex3⟩ : ∃ z : Int32, z = v2c16 + (1 : Int32) := ⟨_, rfl⟩
            refine lv_iinc (v := x3) (lv' := [(2, .int x3), (0, .ref q_this), (1, .int v1c16), (3, .int v3c16)]) hx hb dX8_twins_48 hl (k := 2) rfl (by rw [ex3]; rfl) (by decide) rfl (fun ls hl => ?_)
            replace hR := uy_Ls ex3 hR
            have i_x3 : iv x3 1 8 := iv_add ex3 i_v2c16 (iv_lit (1 : Int32) (by decide) : iv (1 : Int32) 1 1) (by decide) (by decide) (by decide) (by decide)
            refine lv_goto (tgt := 4) hx hb dX8_twins_51 (by decide) ?_
            exact ih4 v1c16 x3 ls (iv_w i_x3 (by decide) (by decide)) (ms_up ex3 i_v2c16 (by decide) (by decide) hm4) (uy_Ql (uy_Qr hR)) (lv_sub hl [1, 2, 0] rfl)
          ·
            replace hR := uy_Qn c2 hR
            have j4 : iv v3c16 1 7 := iv_ltL (iv_nle c2) i_v3c16 i_x_this_people (by decide)
            have j5 : iv x_this_people 2 8 := iv_ltR (iv_nle c2) i_v3c16 i_x_this_people (by decide)
            refine lv_aload_n hx hb dX8_twins_24 rfl (lv_at hl 0 rfl) ?_
            refine lv_iload_n hx hb dX8_twins_25 rfl (lv_at hl 2 rfl) ?_
            refine kPS (rest := [.ref q_this]) ⟨hx, hb, hml, hown, hts⟩ (c_State_faceOf l D ct v2c16 i_v2c16) (va_cwS 1 hts gX8_twins_X8_faceOf rfl rfl rfl (by first | exact hdX8_faceOf_1.2 | decide +kernel) ⟨(Nat.le_of_ble_eq_true rfl), (Nat.le_of_ble_eq_true rfl)⟩) hK hP [] rfl rfl hl.1 rfl (Nat.le_of_ble_eq_true rfl) dX8_twins_26 ⟨(Nat.le_of_ble_eq_true rfl), (Nat.le_of_ble_eq_true rfl)⟩ (fun r6 hr6 => ?_)
            have i_r6 : iv r6 8 15 := hr6.1
            have m7 : r6 = m_State_faceOf v2c16 := hr6.2
            replace hR := uy_Cs1 m7 hR
            refine lv_iload_n hx hb dX8_twins_29 rfl (lv_at hl 3 rfl) ?_
            refine kPS (rest := [.int r6, .ref q_this]) ⟨hx, hb, hml, hown, hts⟩ (c_State_faceOf l D ct v3c16 (iv_w j4 (by decide) (by decide))) (va_cwS 1 hts gX8_twins_X8_faceOf rfl rfl rfl (by first | exact hdX8_faceOf_1.2 | decide +kernel) ⟨(Nat.le_of_ble_eq_true rfl), (Nat.le_of_ble_eq_true rfl)⟩) hK hP [] rfl rfl hl.1 rfl (Nat.le_of_ble_eq_true rfl) dX8_twins_30 ⟨(Nat.le_of_ble_eq_true rfl), (Nat.le_of_ble_eq_true rfl)⟩ (fun r8 hr8 => ?_)
            have i_r8 : iv r8 8 15 := hr8.1
            have m9 : r8 = m_State_faceOf v3c16 := hr8.2
            replace hR := uy_Cs1 m9 hR
            refine kPV (rest := []) (ci := 8) ⟨hx, hb, hml, hown, hts⟩ (c_State_unlikeness l D ct q_this q_this_jaw q_this_brow q_this_stone q_this_age q_this_family q_this_seat x_this_gargoyles x_this_people x_this_year f_this_jaw f_this_brow f_this_stone f_this_age f_this_family f_this_seat r6 r8 i_x_this_gargoyles (iv_w j5 (by decide) (by decide)) i_x_this_year a_f_this_seat (iv_w i_r6 (by decide) (by decide)) (iv_w i_r8 (by decide) (by decide))) (cwV 2 hts gX8_twins_X8_unlikeness rfl rfl rfl (by first | exact hdX8_unlikeness_2 | decide +kernel) ⟨(Nat.le_of_ble_eq_true rfl), (Nat.le_of_ble_eq_true rfl)⟩) hK hP [0, 1, 2, 3, 4, 5, 6] rfl rfl rfl rfl rfl hl.1 rfl (Nat.le_of_ble_eq_true rfl) dX8_twins_33 ⟨(Nat.le_of_ble_eq_true rfl), (Nat.le_of_ble_eq_true rfl)⟩ (fun r10 hr10 => ?_)
            have m11 : r10 = m_State_unlikeness f_this_jaw f_this_brow r6 r8 := hr10
            replace hR := uy_Cs1 m11 hR
            refine lv_if_ne (tgt := 42) hx hb dX8_twins_36 (by decide) (fun c12 => ?_) (fun c12 => ?_)
            ·
              replace hR := uy_Qn c12 hR
              exact K42 v1c16 v2c16 v3c16 ls i_v2c16 j4 hm16 hm4 hR (lv_sub hl [0, 1, 2, 3] rfl)
            ·
              replace hR := uy_Qp c12 hR
              have j13 : iv r10 0 0 := by rw [c12]; exact (iv_lit (0 : Int32) (by decide) : iv (0 : Int32) 0 0)
              obtain ⟨x14, ex14⟩ : ∃ z : Int32, z = v1c16 + (1 : Int32) := ⟨_, rfl⟩
              refine lv_iinc (v := x14) (lv' := [(1, .int x14), (0, .ref q_this), (2, .int v2c16), (3, .int v3c16)]) hx hb dX8_twins_39 hl (k := 1) rfl (by rw [ex14]; rfl) (by decide) rfl (fun ls hl => ?_)
              replace hR := uy_Ls ex14 hR
              exact K42 x14 v2c16 v3c16 ls i_v2c16 j4 hm16 hm4 hR (lv_sub hl [1, 0, 2, 3] rfl)
      delta m_State_twins_b4 at hR
      refine lv_iload_n hx hb dX8_twins_4 rfl (lv_at hl 2 rfl) ?_
      refine lv_aload_n hx hb dX8_twins_5 rfl (lv_at hl 0 rfl) ?_
      refine va_get (D := D) (ci := 8) (v := .int x_this_people) (C := RX8) (T := TX8) (N := 9) hx hb hts hin_State hown hK hP 0 rfl rfl 1 (by decide) (hts (.fieldLink RX8 34 "GutterSeats$State" "people" "I") (List.mem_cons_of_mem _ (List.mem_append_left _ (List.mem_of_getElem? (i := 0) (by first | rfl | decide +kernel))))) (fun _ h9 => h9) rfl dX8_twins_6 ?_
      refine lv_icmp_ge (tgt := 54) hx hb dX8_twins_9 (by decide) (fun c15 => ?_) (fun c15 => ?_)
      ·
        replace hR := uy_Qp c15 hR
        refine lv_iload_n hx hb dX8_twins_54 rfl (lv_at hl 1 rfl) ?_
        exact hE _ _ _ ((uy_Q0 (uy_Qr hR)).symm.trans hRe) dX8_twins_55
      ·
        replace hR := uy_Qn c15 hR
        have j16 : iv v2c4 0 7 := iv_ltL (iv_nle c15) i_v2c4 i_x_this_people (by decide)
        have j17 : iv x_this_people 1 8 := iv_ltR (iv_nle c15) i_v2c4 i_x_this_people (by decide)
        refine lv_iload_n hx hb dX8_twins_12 rfl (lv_at hl 2 rfl) ?_
        refine lv_iconst (v := 1) hx hb dX8_twins_13 (by decide) ?_
        refine lv_iadd hx hb dX8_twins_14 ?_
        refine lv_topi (fun x18 ex18 => ?_)
        replace hR := uy_Ls ex18 hR
        have i_x18 : iv x18 1 8 := iv_add ex18 j16 (iv_lit (1 : Int32) (by decide) : iv (1 : Int32) 1 1) (by decide) (by decide) (by decide) (by decide)
        refine lv_istore_n (lv' := [(3, .int x18), (0, .ref q_this), (1, .int v1c4), (2, .int v2c4)]) hx hb dX8_twins_15 rfl hl (by decide) rfl (fun ls hl => ?_)
        exact K16 _ v1c4 v2c4 x18 ls j16 i_x18 (Nat.lt_succ_self _) hm4 hR (lv_sub hl [1, 2, 3, 0] rfl)
  delta m_State_twins at hR
  refine lv_iconst (v := 0) hx hb dX8_twins_0 (by decide) ?_
  refine lv_istore_n (lv' := [(1, .int (0 : Int32)), (0, .ref q_this)]) hx hb dX8_twins_1 rfl hl (by decide) rfl (fun ls hl => ?_)
  refine lv_iconst (v := 0) hx hb dX8_twins_2 (by decide) ?_
  refine lv_istore_n (lv' := [(2, .int (0 : Int32)), (1, .int (0 : Int32)), (0, .ref q_this)]) hx hb dX8_twins_3 rfl hl (by decide) rfl (fun ls hl => ?_)
  exact K4 _ (0 : Int32) (0 : Int32) ls (iv_lit (0 : Int32) (by decide) : iv (0 : Int32) 0 8) (Nat.lt_succ_self _) hR (lv_sub hl [2, 1, 0] rfl)
abbrev rm_State_longestRow : Room := { frames := 1, cells := 0, slots := 0, locals := 21 }
set_option maxHeartbeats 4000000 in
set_option maxRecDepth 100000 in
theorem c_State_longestRow (l : Launch) (D : va_G) (ct : Nat → ClassId) (q_this q_this_jaw q_this_brow q_this_stone q_this_age q_this_family q_this_seat : Nat) (x_this_gargoyles x_this_people x_this_year : Int32) (f_this_jaw f_this_brow f_this_stone f_this_age f_this_family f_this_seat : Nat → Int32) (i_x_this_gargoyles : iv x_this_gargoyles 0 8) (i_x_this_people : iv x_this_people 0 8) (i_x_this_year : iv x_this_year 0 5000) (a_f_this_seat : av f_this_seat 8 (-1) 7) : cP l yX8_longestRow wsX8_longestRow rm_State_longestRow D ct [(q_this, .inr (8, [.int x_this_gargoyles, .int x_this_people, .int x_this_year, .ref q_this_jaw, .ref q_this_brow, .ref q_this_stone, .ref q_this_age, .ref q_this_family, .ref q_this_seat])), (q_this_jaw, .inl (ct 0, 16, .inl f_this_jaw)), (q_this_brow, .inl (ct 0, 16, .inl f_this_brow)), (q_this_stone, .inl (ct 0, 8, .inl f_this_stone)), (q_this_age, .inl (ct 0, 8, .inl f_this_age)), (q_this_family, .inl (ct 0, 8, .inl f_this_family)), (q_this_seat, .inl (ct 0, 8, .inl f_this_seat))] [.ref q_this] (fun r : Int32 => r = m_State_longestRow x_this_gargoyles f_this_stone) := by
  refine cP_of (cc := cX8_longestRow) (maxL := 5) (by decide) rfl (Nat.le_of_ble_eq_true rfl) ?_
  intro p e s m args below meth c Q hx hb hml hts hown hK hP hE ls hl
  have hl : lv_has ls 5 [(0, .ref q_this)] := hl
  obtain ⟨R, hRe⟩ : ∃ R : (Int32), R = m_State_longestRow x_this_gargoyles f_this_stone := ⟨_, rfl⟩
  have hR : uy_Q R (fun z : (Int32) => z) (m_State_longestRow x_this_gargoyles f_this_stone) := hRe
  have hin_State : ∀ w ∈ u_ws RX8 TX8 9, w ∈ wsX8_longestRow := fun w h => List.mem_cons_of_mem _ (List.mem_append_right _ (h))
  have K6 : ∀ (n6 : Nat) (v1c6 v2c6 v3c6 : Int32) (ls : Array Slot), iv v2c6 0 2147483647 → iv v3c6 0 16 → (16 - v3c6.toInt).toNat < n6 → uy_Q R (fun z : (Int32) => z) (m_State_longestRow_k6 x_this_gargoyles f_this_stone (v1c6, v2c6, v3c6)) → lv_has ls 5 [(0, .ref q_this), (1, .int v1c6), (2, .int v2c6), (3, .int v3c6)] → W p l e rm_State_longestRow s m args below meth c s.heap [] 0 0 Q (F0 m 6 ls []) := by
    intro n6
    induction n6 with
    | zero => intro v1c6 v2c6 v3c6 ls i_v2c6 i_v3c6 hm6 hR hl; exact absurd hm6 (Nat.not_lt_zero _)
    | succ n6 ih6 =>
      intro v1c6 v2c6 v3c6 ls i_v2c6 i_v3c6 hm6 hR hl
      replace hR : uy_Q R (uy_E (fun z : (Int32) => z) (m_State_longestRow_k6 x_this_gargoyles f_this_stone)) (m_State_longestRow_b6 x_this_gargoyles f_this_stone v1c6 v2c6 v3c6) := uy_whs hR
      have K53 : ∀ (v2c53 v3c53 s0c53 : Int32) (ls : Array Slot), iv v2c53 0 2147483647 → iv v3c53 0 15 → (16 - v3c53.toInt).toNat < n6 + 1 → uy_Q R (uy_E (fun z : (Int32) => z) (m_State_longestRow_k6 x_this_gargoyles f_this_stone)) (m_State_longestRow_k53 x_this_gargoyles f_this_stone v2c53 v3c53 s0c53) → lv_has ls 5 [(0, .ref q_this), (2, .int v2c53), (3, .int v3c53)] → W p l e rm_State_longestRow s m args below meth c s.heap [] 0 0 Q (F0 m 53 ls [.int s0c53]) := by
        intro v2c53 v3c53 s0c53 ls i_v2c53 i_v3c53 hm6 hR hl
        delta m_State_longestRow_k53 at hR
        refine lv_istore_n (lv' := [(1, .int s0c53), (0, .ref q_this), (2, .int v2c53), (3, .int v3c53)]) hx hb dX8_longestRow_53 rfl hl (by decide) rfl (fun ls hl => ?_)
        refine lv_iload_n hx hb dX8_longestRow_54 rfl (lv_at hl 2 rfl) ?_
        refine lv_iload_n hx hb dX8_longestRow_55 rfl (lv_at hl 0 rfl) ?_
        refine va_mmax hx hb (by rw [hml]; exact hl.1.symm) hown (hts (.methodLink RX8 59 Lib.Math.max.name) (List.mem_cons_of_mem _ (List.mem_append_left _ (List.mem_of_getElem? (i := 2) (by first | rfl | decide +kernel))))) (hts (.static Lib.Math.max.name) (List.mem_cons_of_mem _ (List.mem_append_left _ (List.mem_of_getElem? (i := 3) (by first | rfl | decide +kernel))))) (hts (.initialized "java/lang/Math") (List.mem_cons_of_mem _ (List.mem_append_left _ (List.mem_of_getElem? (i := 4) (by first | rfl | decide +kernel))))) (hts (.code Lib.Math.max.name Lib.Math.max.code 2 (some .int)) (List.mem_cons_of_mem _ (List.mem_append_left _ (List.mem_of_getElem? (i := 5) (by first | rfl | decide +kernel))))) (Nat.le_of_ble_eq_true rfl) (Nat.le_of_ble_eq_true rfl) (Nat.le_of_ble_eq_true rfl) (Nat.le_of_ble_eq_true rfl) dX8_longestRow_56 ?_
        refine lv_topi (fun x1 ex1 => ?_)
        replace hR := uy_Ls ex1 hR
        have i_x1 : iv x1 0 2147483647 := iv_max ex1 i_v2c53 (iv_any s0c53) (by decide) (by decide) (by decide)
        refine lv_istore_n (lv' := [(2, .int x1), (1, .int s0c53), (0, .ref q_this), (3, .int v3c53)]) hx hb dX8_longestRow_59 rfl hl (by decide) rfl (fun ls hl => ?_)
        obtain ⟨x2, ex2⟩ : ∃ z : Int32, z = v3c53 + (1 : Int32) := ⟨_, rfl⟩
        refine lv_iinc (v := x2) (lv' := [(3, .int x2), (2, .int x1), (1, .int s0c53), (0, .ref q_this)]) hx hb dX8_longestRow_60 hl (k := 3) rfl (by rw [ex2]; rfl) (by decide) rfl (fun ls hl => ?_)
        replace hR := uy_Ls ex2 hR
        have i_x2 : iv x2 1 16 := iv_add ex2 i_v3c53 (iv_lit (1 : Int32) (by decide) : iv (1 : Int32) 1 1) (by decide) (by decide) (by decide) (by decide)
        refine lv_goto (tgt := 6) hx hb dX8_longestRow_63 (by decide) ?_
        exact ih6 s0c53 x1 x2 ls i_x1 (iv_w i_x2 (by decide) (by decide)) (ms_up ex2 i_v3c53 (by decide) (by decide) hm6) (uy_Ql hR) (lv_sub hl [3, 2, 1, 0] rfl)
      delta m_State_longestRow_b6 at hR
      refine lv_iload_n hx hb dX8_longestRow_6 rfl (lv_at hl 3 rfl) ?_
      refine lv_iconst (v := 2) hx hb dX8_longestRow_7 (by decide) ?_
      refine lv_aload_n hx hb dX8_longestRow_8 rfl (lv_at hl 0 rfl) ?_
      refine va_get (D := D) (ci := 8) (v := .int x_this_gargoyles) (C := RX8) (T := TX8) (N := 9) hx hb hts hin_State hown hK hP 0 rfl rfl 0 (by decide) (hts (.fieldLink RX8 30 "GutterSeats$State" "gargoyles" "I") (List.mem_cons_of_mem _ (List.mem_append_left _ (List.mem_of_getElem? (i := 0) (by first | rfl | decide +kernel))))) (fun _ h9 => h9) rfl dX8_longestRow_9 ?_
      refine lv_imul hx hb dX8_longestRow_12 ?_
      refine lv_topi (fun x3 ex3 => ?_)
      replace hR := uy_Ls ex3 hR
      have i_x3 : iv x3 0 16 := iv_mulN ex3 (iv_w (iv_lit (2 : Int32) (by decide) : iv (2 : Int32) 2 2) (by decide) (by decide) : iv _ 0 2) (iv_w i_x_this_gargoyles (by decide) (by decide) : iv _ 0 8) (by decide) (by decide)
      refine lv_icmp_ge (tgt := 66) hx hb dX8_longestRow_13 (by decide) (fun c4 => ?_) (fun c4 => ?_)
      ·
        replace hR := uy_Qp c4 hR
        refine lv_iload_n hx hb dX8_longestRow_66 rfl (lv_at hl 2 rfl) ?_
        refine lv_aload_n hx hb dX8_longestRow_67 rfl (lv_at hl 0 rfl) ?_
        refine va_get (D := D) (ci := 8) (v := .int x_this_gargoyles) (C := RX8) (T := TX8) (N := 9) hx hb hts hin_State hown hK hP 0 rfl rfl 0 (by decide) (hts (.fieldLink RX8 30 "GutterSeats$State" "gargoyles" "I") (List.mem_cons_of_mem _ (List.mem_append_left _ (List.mem_of_getElem? (i := 0) (by first | rfl | decide +kernel))))) (fun _ h9 => h9) rfl dX8_longestRow_68 ?_
        refine va_mmin hx hb (by rw [hml]; exact hl.1.symm) hown (hts (.methodLink RX8 62 Lib.Math.min.name) (List.mem_cons_of_mem _ (List.mem_append_left _ (List.mem_of_getElem? (i := 6) (by first | rfl | decide +kernel))))) (hts (.static Lib.Math.min.name) (List.mem_cons_of_mem _ (List.mem_append_left _ (List.mem_of_getElem? (i := 7) (by first | rfl | decide +kernel))))) (hts (.initialized "java/lang/Math") (List.mem_cons_of_mem _ (List.mem_append_left _ (List.mem_of_getElem? (i := 4) (by first | rfl | decide +kernel))))) (hts (.code Lib.Math.min.name Lib.Math.min.code 2 (some .int)) (List.mem_cons_of_mem _ (List.mem_append_left _ (List.mem_of_getElem? (i := 8) (by first | rfl | decide +kernel))))) (Nat.le_of_ble_eq_true rfl) (Nat.le_of_ble_eq_true rfl) (Nat.le_of_ble_eq_true rfl) (Nat.le_of_ble_eq_true rfl) dX8_longestRow_71 ?_
        refine lv_topi (fun x5 ex5 => ?_)
        replace hR := uy_Ls ex5 hR
        have i_x5 : iv x5 0 8 := iv_min ex5 i_v2c6 i_x_this_gargoyles (by decide) (by decide) (by decide)
        exact hE _ _ _ ((uy_Q0 (uy_Qr hR)).symm.trans hRe) dX8_longestRow_74
      ·
        replace hR := uy_Qn c4 hR
        have j6 : iv v3c6 0 15 := iv_ltL (iv_nle c4) i_v3c6 i_x3 (by decide)
        have j7 : iv x3 1 16 := iv_ltR (iv_nle c4) i_v3c6 i_x3 (by decide)
        refine lv_iload_n hx hb dX8_longestRow_16 rfl (lv_at hl 3 rfl) ?_
        refine lv_aload_n hx hb dX8_longestRow_17 rfl (lv_at hl 0 rfl) ?_
        refine va_get (D := D) (ci := 8) (v := .int x_this_gargoyles) (C := RX8) (T := TX8) (N := 9) hx hb hts hin_State hown hK hP 0 rfl rfl 0 (by decide) (hts (.fieldLink RX8 30 "GutterSeats$State" "gargoyles" "I") (List.mem_cons_of_mem _ (List.mem_append_left _ (List.mem_of_getElem? (i := 0) (by first | rfl | decide +kernel))))) (fun _ h9 => h9) rfl dX8_longestRow_18 ?_
        refine lv_icmp_ge (tgt := 28) hx hb dX8_longestRow_21 (by decide) (fun c8 => ?_) (fun c8 => ?_)
        ·
          replace hR := uy_Qp c8 hR
          refine lv_iload_n hx hb dX8_longestRow_28 rfl (lv_at hl 3 rfl) ?_
          refine lv_aload_n hx hb dX8_longestRow_29 rfl (lv_at hl 0 rfl) ?_
          refine va_get (D := D) (ci := 8) (v := .int x_this_gargoyles) (C := RX8) (T := TX8) (N := 9) hx hb hts hin_State hown hK hP 0 rfl rfl 0 (by decide) (hts (.fieldLink RX8 30 "GutterSeats$State" "gargoyles" "I") (List.mem_cons_of_mem _ (List.mem_append_left _ (List.mem_of_getElem? (i := 0) (by first | rfl | decide +kernel))))) (fun _ h9 => h9) rfl dX8_longestRow_30 ?_
          refine lv_isub hx hb dX8_longestRow_33 ?_
          refine lv_topi (fun x9 ex9 => ?_)
          replace hR := uy_Ls ex9 hR
          have i_x9 : iv x9 (-8) 15 := iv_sub ex9 j6 i_x_this_gargoyles (by decide) (by decide) (by decide) (by decide)
          refine lv_istore (lv' := [(4, .int x9), (0, .ref q_this), (1, .int v1c6), (2, .int v2c6), (3, .int v3c6)]) hx hb dX8_longestRow_34 hl (by decide) rfl (fun ls hl => ?_)
          refine lv_aload_n hx hb dX8_longestRow_36 rfl (lv_at hl 1 rfl) ?_
          refine va_get (D := D) (ci := 8) (v := .ref q_this_stone) (C := RX8) (T := TX8) (N := 9) hx hb hts hin_State hown hK hP 0 rfl rfl 5 (by decide) (hts (.fieldLink RX8 18 "GutterSeats$State" "stone" "[I") (List.mem_cons_of_mem _ (List.mem_append_left _ (List.mem_of_getElem? (i := 1) (by first | rfl | decide +kernel))))) (fun _ h9 => h9) rfl dX8_longestRow_37 ?_
          refine lv_iload hx hb dX8_longestRow_40 (lv_at hl 0 rfl) ?_
          have n10 : vp_in x9 8 := vp_in_iff.mpr (by have := (i_x9).1; have := (i_x9).2; have := (j6).1; have := (j6).2; have := (i_x_this_gargoyles).1; have := (i_x_this_gargoyles).2; have := (j7).1; have := (j7).2; have := lt_i (iv_nle c4); have := le_i c8; have : x3.toInt = 2 * x_this_gargoyles.toInt := (by have q : (2 : Int32).toInt = 2 := rfl; rw [ex3, iv_tmul (by rw [q]; omega) (by rw [q]; omega), q]); have : x9.toInt = v3c6.toInt - x_this_gargoyles.toInt := (by rw [ex9]; exact iv_tsub (by omega) (by omega)); omega)
          refine va_iald hx hb hK hP 3 0 rfl rfl n10 dX8_longestRow_42 ?_
          refine lv_topi (fun x11 ex11 => ?_)
          replace hR := uy_Ls ex11 hR
          refine lv_if_ne (tgt := 52) hx hb dX8_longestRow_43 (by decide) (fun c12 => ?_) (fun c12 => ?_)
          ·
            replace hR := uy_Qn c12 hR
            refine lv_iconst (v := 0) hx hb dX8_longestRow_52 (by decide) ?_
            exact K53 v2c6 v3c6 (0 : Int32) ls i_v2c6 j6 hm6 hR (lv_sub hl [1, 3, 4] rfl)
          ·
            replace hR := uy_Qp c12 hR
            have j13 : iv x11 0 0 := by rw [c12]; exact (iv_lit (0 : Int32) (by decide) : iv (0 : Int32) 0 0)
            refine lv_iload_n hx hb dX8_longestRow_46 rfl (lv_at hl 2 rfl) ?_
            refine lv_iconst (v := 1) hx hb dX8_longestRow_47 (by decide) ?_
            refine lv_iadd hx hb dX8_longestRow_48 ?_
            refine lv_topi (fun x14 ex14 => ?_)
            replace hR := uy_Ls ex14 hR
            refine lv_goto (tgt := 53) hx hb dX8_longestRow_49 (by decide) ?_
            exact K53 v2c6 v3c6 x14 ls i_v2c6 j6 hm6 hR (lv_sub hl [1, 3, 4] rfl)
        ·
          replace hR := uy_Qn c8 hR
          have j15 : iv v3c6 0 7 := iv_ltL (iv_nle c8) j6 i_x_this_gargoyles (by decide)
          have j16 : iv x_this_gargoyles 1 8 := iv_ltR (iv_nle c8) j6 i_x_this_gargoyles (by decide)
          refine lv_iload_n hx hb dX8_longestRow_24 rfl (lv_at hl 3 rfl) ?_
          refine lv_goto (tgt := 34) hx hb dX8_longestRow_25 (by decide) ?_
          refine lv_istore (lv' := [(4, .int v3c6), (0, .ref q_this), (1, .int v1c6), (2, .int v2c6), (3, .int v3c6)]) hx hb dX8_longestRow_34 hl (by decide) rfl (fun ls hl => ?_)
          refine lv_aload_n hx hb dX8_longestRow_36 rfl (lv_at hl 1 rfl) ?_
          refine va_get (D := D) (ci := 8) (v := .ref q_this_stone) (C := RX8) (T := TX8) (N := 9) hx hb hts hin_State hown hK hP 0 rfl rfl 5 (by decide) (hts (.fieldLink RX8 18 "GutterSeats$State" "stone" "[I") (List.mem_cons_of_mem _ (List.mem_append_left _ (List.mem_of_getElem? (i := 1) (by first | rfl | decide +kernel))))) (fun _ h9 => h9) rfl dX8_longestRow_37 ?_
          refine lv_iload hx hb dX8_longestRow_40 (lv_at hl 0 rfl) ?_
          have n17 : vp_in v3c6 8 := iv_in j15 (by decide) (by decide)
          refine va_iald hx hb hK hP 3 0 rfl rfl n17 dX8_longestRow_42 ?_
          refine lv_topi (fun x18 ex18 => ?_)
          replace hR := uy_Ls ex18 hR
          refine lv_if_ne (tgt := 52) hx hb dX8_longestRow_43 (by decide) (fun c19 => ?_) (fun c19 => ?_)
          ·
            replace hR := uy_Qn c19 hR
            refine lv_iconst (v := 0) hx hb dX8_longestRow_52 (by decide) ?_
            exact K53 v2c6 v3c6 (0 : Int32) ls i_v2c6 (iv_w j15 (by decide) (by decide)) hm6 hR (lv_sub hl [1, 3, 4] rfl)
          ·
            replace hR := uy_Qp c19 hR
            have j20 : iv x18 0 0 := by rw [c19]; exact (iv_lit (0 : Int32) (by decide) : iv (0 : Int32) 0 0)
            refine lv_iload_n hx hb dX8_longestRow_46 rfl (lv_at hl 2 rfl) ?_
            refine lv_iconst (v := 1) hx hb dX8_longestRow_47 (by decide) ?_
            refine lv_iadd hx hb dX8_longestRow_48 ?_
            refine lv_topi (fun x21 ex21 => ?_)
            replace hR := uy_Ls ex21 hR
            refine lv_goto (tgt := 53) hx hb dX8_longestRow_49 (by decide) ?_
            exact K53 v2c6 v3c6 x21 ls i_v2c6 (iv_w j15 (by decide) (by decide)) hm6 hR (lv_sub hl [1, 3, 4] rfl)
  delta m_State_longestRow at hR
  refine lv_iconst (v := 0) hx hb dX8_longestRow_0 (by decide) ?_
  refine lv_istore_n (lv' := [(1, .int (0 : Int32)), (0, .ref q_this)]) hx hb dX8_longestRow_1 rfl hl (by decide) rfl (fun ls hl => ?_)
  refine lv_iconst (v := 0) hx hb dX8_longestRow_2 (by decide) ?_
  refine lv_istore_n (lv' := [(2, .int (0 : Int32)), (1, .int (0 : Int32)), (0, .ref q_this)]) hx hb dX8_longestRow_3 rfl hl (by decide) rfl (fun ls hl => ?_)
  refine lv_iconst (v := 0) hx hb dX8_longestRow_4 (by decide) ?_
  refine lv_istore_n (lv' := [(3, .int (0 : Int32)), (2, .int (0 : Int32)), (1, .int (0 : Int32)), (0, .ref q_this)]) hx hb dX8_longestRow_5 rfl hl (by decide) rfl (fun ls hl => ?_)
  exact K6 _ (0 : Int32) (0 : Int32) (0 : Int32) ls (iv_lit (0 : Int32) (by decide) : iv (0 : Int32) 0 2147483647) (iv_lit (0 : Int32) (by decide) : iv (0 : Int32) 0 16) (Nat.lt_succ_self _) hR (lv_sub hl [3, 2, 1, 0] rfl)
abbrev rm_State_oldestSitter : Room := { frames := 0, cells := 0, slots := 0, locals := 0 }
set_option maxHeartbeats 4000000 in
set_option maxRecDepth 100000 in
theorem c_State_oldestSitter (l : Launch) (D : va_G) (ct : Nat → ClassId) (q_this q_this_jaw q_this_brow q_this_stone q_this_age q_this_family q_this_seat : Nat) (x_this_gargoyles x_this_people x_this_year : Int32) (f_this_jaw f_this_brow f_this_stone f_this_age f_this_family f_this_seat : Nat → Int32) (i_x_this_gargoyles : iv x_this_gargoyles 0 8) (i_x_this_people : iv x_this_people 0 8) (i_x_this_year : iv x_this_year 0 5000) (a_f_this_seat : av f_this_seat 8 (-1) 7) : cP l yX8_oldestSitter wsX8_oldestSitter rm_State_oldestSitter D ct [(q_this, .inr (8, [.int x_this_gargoyles, .int x_this_people, .int x_this_year, .ref q_this_jaw, .ref q_this_brow, .ref q_this_stone, .ref q_this_age, .ref q_this_family, .ref q_this_seat])), (q_this_jaw, .inl (ct 0, 16, .inl f_this_jaw)), (q_this_brow, .inl (ct 0, 16, .inl f_this_brow)), (q_this_stone, .inl (ct 0, 8, .inl f_this_stone)), (q_this_age, .inl (ct 0, 8, .inl f_this_age)), (q_this_family, .inl (ct 0, 8, .inl f_this_family)), (q_this_seat, .inl (ct 0, 8, .inl f_this_seat))] [.ref q_this] (fun r : Int32 => iv r (-1) 7 ∧ r = m_State_oldestSitter x_this_people f_this_age f_this_seat) := by
  refine cP_of (cc := cX8_oldestSitter) (maxL := 4) (by decide) rfl (Nat.le_of_ble_eq_true rfl) ?_
  intro p e s m args below meth c Q hx hb hml hts hown hK hP hE ls hl
  have hl : lv_has ls 4 [(0, .ref q_this)] := hl
  obtain ⟨R, hRe⟩ : ∃ R : (Int32), R = m_State_oldestSitter x_this_people f_this_age f_this_seat := ⟨_, rfl⟩
  have hR : uy_Q R (fun z : (Int32) => z) (m_State_oldestSitter x_this_people f_this_age f_this_seat) := hRe
  have hin_State : ∀ w ∈ u_ws RX8 TX8 9, w ∈ wsX8_oldestSitter := fun w h => List.mem_cons_of_mem _ (List.mem_append_right _ (h))
  have K6 : ∀ (n6 : Nat) (v1c6 v2c6 v3c6 : Int32) (ls : Array Slot), iv v1c6 (-1) 7 → iv v3c6 0 8 → (8 - v3c6.toInt).toNat < n6 → uy_Q R (fun z : (Int32) => z) (m_State_oldestSitter_k6 x_this_people f_this_age f_this_seat (v1c6, v2c6, v3c6)) → lv_has ls 4 [(0, .ref q_this), (1, .int v1c6), (2, .int v2c6), (3, .int v3c6)] → W p l e rm_State_oldestSitter s m args below meth c s.heap [] 0 0 Q (F0 m 6 ls []) := by
    intro n6
    induction n6 with
    | zero => intro v1c6 v2c6 v3c6 ls i_v1c6 i_v3c6 hm6 hR hl; exact absurd hm6 (Nat.not_lt_zero _)
    | succ n6 ih6 =>
      intro v1c6 v2c6 v3c6 ls i_v1c6 i_v3c6 hm6 hR hl
      replace hR : uy_Q R (uy_E (fun z : (Int32) => z) (m_State_oldestSitter_k6 x_this_people f_this_age f_this_seat)) (m_State_oldestSitter_b6 x_this_people f_this_age f_this_seat v1c6 v2c6 v3c6) := uy_whs hR
      have K43 : ∀ (v1c43 v2c43 v3c43 : Int32) (ls : Array Slot), iv v1c43 (-1) 7 → iv v3c43 0 7 → (8 - v3c43.toInt).toNat < n6 + 1 → uy_Q R (uy_E (fun z : (Int32) => z) (m_State_oldestSitter_k6 x_this_people f_this_age f_this_seat)) (m_State_oldestSitter_k43 x_this_people f_this_age f_this_seat v1c43 v2c43 v3c43) → lv_has ls 4 [(0, .ref q_this), (1, .int v1c43), (2, .int v2c43), (3, .int v3c43)] → W p l e rm_State_oldestSitter s m args below meth c s.heap [] 0 0 Q (F0 m 43 ls []) := by
        intro v1c43 v2c43 v3c43 ls i_v1c43 i_v3c43 hm6 hR hl
        delta m_State_oldestSitter_k43 at hR
        obtain ⟨x1, ex1⟩ : ∃ z : Int32, z = v3c43 + (1 : Int32) := ⟨_, rfl⟩
        refine lv_iinc (v := x1) (lv' := [(3, .int x1), (0, .ref q_this), (1, .int v1c43), (2, .int v2c43)]) hx hb dX8_oldestSitter_43 hl (k := 3) rfl (by rw [ex1]; rfl) (by decide) rfl (fun ls hl => ?_)
        replace hR := uy_Ls ex1 hR
        have i_x1 : iv x1 1 8 := iv_add ex1 i_v3c43 (iv_lit (1 : Int32) (by decide) : iv (1 : Int32) 1 1) (by decide) (by decide) (by decide) (by decide)
        refine lv_goto (tgt := 6) hx hb dX8_oldestSitter_46 (by decide) ?_
        exact ih6 v1c43 v2c43 x1 ls i_v1c43 (iv_w i_x1 (by decide) (by decide)) (ms_up ex1 i_v3c43 (by decide) (by decide) hm6) (uy_Ql hR) (lv_sub hl [1, 2, 3, 0] rfl)
      delta m_State_oldestSitter_b6 at hR
      refine lv_iload_n hx hb dX8_oldestSitter_6 rfl (lv_at hl 3 rfl) ?_
      refine lv_aload_n hx hb dX8_oldestSitter_7 rfl (lv_at hl 0 rfl) ?_
      refine va_get (D := D) (ci := 8) (v := .int x_this_people) (C := RX8) (T := TX8) (N := 9) hx hb hts hin_State hown hK hP 0 rfl rfl 1 (by decide) (hts (.fieldLink RX8 34 "GutterSeats$State" "people" "I") (List.mem_cons_of_mem _ (List.mem_append_left _ (List.mem_of_getElem? (i := 0) (by first | rfl | decide +kernel))))) (fun _ h9 => h9) rfl dX8_oldestSitter_8 ?_
      refine lv_icmp_ge (tgt := 49) hx hb dX8_oldestSitter_11 (by decide) (fun c2 => ?_) (fun c2 => ?_)
      ·
        replace hR := uy_Qp c2 hR
        refine lv_iload_n hx hb dX8_oldestSitter_49 rfl (lv_at hl 1 rfl) ?_
        exact hE _ _ _ ⟨i_v1c6, ((uy_Q0 (uy_Qr hR)).symm.trans hRe)⟩ dX8_oldestSitter_50
      ·
        replace hR := uy_Qn c2 hR
        have j3 : iv v3c6 0 7 := iv_ltL (iv_nle c2) i_v3c6 i_x_this_people (by decide)
        have j4 : iv x_this_people 1 8 := iv_ltR (iv_nle c2) i_v3c6 i_x_this_people (by decide)
        refine lv_aload_n hx hb dX8_oldestSitter_14 rfl (lv_at hl 0 rfl) ?_
        refine va_get (D := D) (ci := 8) (v := .ref q_this_seat) (C := RX8) (T := TX8) (N := 9) hx hb hts hin_State hown hK hP 0 rfl rfl 8 (by decide) (hts (.fieldLink RX8 27 "GutterSeats$State" "seat" "[I") (List.mem_cons_of_mem _ (List.mem_append_left _ (List.mem_of_getElem? (i := 1) (by first | rfl | decide +kernel))))) (fun _ h9 => h9) rfl dX8_oldestSitter_15 ?_
        refine lv_iload_n hx hb dX8_oldestSitter_18 rfl (lv_at hl 3 rfl) ?_
        have n5 : vp_in v3c6 8 := iv_in j3 (by decide) (by decide)
        refine va_iald hx hb hK hP 6 0 rfl rfl n5 dX8_oldestSitter_19 ?_
        refine lv_topi (fun x6 ex6 => ?_)
        replace hR := uy_Ls ex6 hR
        have i_x6 : iv x6 (-1) 7 := by rw [ex6]; exact av_get a_f_this_seat n5
        refine lv_iconst (v := -1) hx hb dX8_oldestSitter_20 (by decide) ?_
        refine lv_icmp_eq (tgt := 43) hx hb dX8_oldestSitter_21 (by decide) (fun c7 => ?_) (fun c7 => ?_)
        ·
          replace hR := uy_Qp c7 hR
          have j8 : iv x6 (-1) (-1) := by rw [c7]; exact (iv_lit (-1 : Int32) (by decide) : iv (-1 : Int32) (-1) (-1))
          exact K43 v1c6 v2c6 v3c6 ls i_v1c6 j3 hm6 hR (lv_sub hl [0, 1, 2, 3] rfl)
        ·
          replace hR := uy_Qn c7 hR
          have j9 : iv x6 0 7 := iv_neL c7 i_x6 rfl (by decide)
          refine lv_aload_n hx hb dX8_oldestSitter_24 rfl (lv_at hl 0 rfl) ?_
          refine va_get (D := D) (ci := 8) (v := .ref q_this_age) (C := RX8) (T := TX8) (N := 9) hx hb hts hin_State hown hK hP 0 rfl rfl 6 (by decide) (hts (.fieldLink RX8 21 "GutterSeats$State" "age" "[I") (List.mem_cons_of_mem _ (List.mem_append_left _ (List.mem_of_getElem? (i := 2) (by first | rfl | decide +kernel))))) (fun _ h9 => h9) rfl dX8_oldestSitter_25 ?_
          refine lv_iload_n hx hb dX8_oldestSitter_28 rfl (lv_at hl 3 rfl) ?_
          have n10 : vp_in v3c6 8 := iv_in j3 (by decide) (by decide)
          refine va_iald hx hb hK hP 4 0 rfl rfl n10 dX8_oldestSitter_29 ?_
          refine lv_topi (fun x11 ex11 => ?_)
          replace hR := uy_Ls ex11 hR
          refine lv_iload_n hx hb dX8_oldestSitter_30 rfl (lv_at hl 2 rfl) ?_
          refine lv_icmp_le (tgt := 43) hx hb dX8_oldestSitter_31 (by decide) (fun c12 => ?_) (fun c12 => ?_)
          ·
            replace hR := uy_Qp c12 hR
            exact K43 v1c6 v2c6 v3c6 ls i_v1c6 j3 hm6 hR (lv_sub hl [0, 1, 2, 3] rfl)
          ·
            replace hR := uy_Qn c12 hR
            have j13 : iv v2c6 (-2147483648) 2147483646 := iv_ltL (iv_nle c12) (iv_any v2c6) (iv_any x11) (by decide)
            have j14 : iv x11 (-2147483647) 2147483647 := iv_ltR (iv_nle c12) (iv_any v2c6) (iv_any x11) (by decide)
            refine lv_iload_n hx hb dX8_oldestSitter_34 rfl (lv_at hl 3 rfl) ?_
            refine lv_istore_n (lv' := [(1, .int v3c6), (0, .ref q_this), (2, .int v2c6), (3, .int v3c6)]) hx hb dX8_oldestSitter_35 rfl hl (by decide) rfl (fun ls hl => ?_)
            refine lv_aload_n hx hb dX8_oldestSitter_36 rfl (lv_at hl 1 rfl) ?_
            refine va_get (D := D) (ci := 8) (v := .ref q_this_age) (C := RX8) (T := TX8) (N := 9) hx hb hts hin_State hown hK hP 0 rfl rfl 6 (by decide) (hts (.fieldLink RX8 21 "GutterSeats$State" "age" "[I") (List.mem_cons_of_mem _ (List.mem_append_left _ (List.mem_of_getElem? (i := 2) (by first | rfl | decide +kernel))))) (fun _ h9 => h9) rfl dX8_oldestSitter_37 ?_
            refine lv_iload_n hx hb dX8_oldestSitter_40 rfl (lv_at hl 3 rfl) ?_
            have n15 : vp_in v3c6 8 := iv_in j3 (by decide) (by decide)
            refine va_iald hx hb hK hP 4 0 rfl rfl n15 dX8_oldestSitter_41 ?_
            refine lv_tope ex11.symm ?_
            refine lv_istore_n (lv' := [(2, .int x11), (1, .int v3c6), (0, .ref q_this), (3, .int v3c6)]) hx hb dX8_oldestSitter_42 rfl hl (by decide) rfl (fun ls hl => ?_)
            exact K43 v3c6 x11 v3c6 ls (iv_w j3 (by decide) (by decide)) j3 hm6 hR (lv_sub hl [2, 1, 0, 3] rfl)
  delta m_State_oldestSitter at hR
  refine lv_iconst (v := -1) hx hb dX8_oldestSitter_0 (by decide) ?_
  refine lv_istore_n (lv' := [(1, .int (-1 : Int32)), (0, .ref q_this)]) hx hb dX8_oldestSitter_1 rfl hl (by decide) rfl (fun ls hl => ?_)
  refine lv_iconst (v := -1) hx hb dX8_oldestSitter_2 (by decide) ?_
  refine lv_istore_n (lv' := [(2, .int (-1 : Int32)), (1, .int (-1 : Int32)), (0, .ref q_this)]) hx hb dX8_oldestSitter_3 rfl hl (by decide) rfl (fun ls hl => ?_)
  refine lv_iconst (v := 0) hx hb dX8_oldestSitter_4 (by decide) ?_
  refine lv_istore_n (lv' := [(3, .int (0 : Int32)), (2, .int (-1 : Int32)), (1, .int (-1 : Int32)), (0, .ref q_this)]) hx hb dX8_oldestSitter_5 rfl hl (by decide) rfl (fun ls hl => ?_)
  exact K6 _ (-1 : Int32) (-1 : Int32) (0 : Int32) ls (iv_lit (-1 : Int32) (by decide) : iv (-1 : Int32) (-1) 7) (iv_lit (0 : Int32) (by decide) : iv (0 : Int32) 0 8) (Nat.lt_succ_self _) hR (lv_sub hl [3, 2, 1, 0] rfl)
abbrev rm_State_mostStone : Room := { frames := 0, cells := 0, slots := 0, locals := 0 }
set_option maxHeartbeats 4000000 in
set_option maxRecDepth 100000 in
theorem c_State_mostStone (l : Launch) (D : va_G) (ct : Nat → ClassId) (q_this q_this_jaw q_this_brow q_this_stone q_this_age q_this_family q_this_seat : Nat) (x_this_gargoyles x_this_people x_this_year : Int32) (f_this_jaw f_this_brow f_this_stone f_this_age f_this_family f_this_seat : Nat → Int32) (i_x_this_gargoyles : iv x_this_gargoyles 0 8) (i_x_this_people : iv x_this_people 0 8) (i_x_this_year : iv x_this_year 0 5000) (a_f_this_seat : av f_this_seat 8 (-1) 7) : cP l yX8_mostStone wsX8_mostStone rm_State_mostStone D ct [(q_this, .inr (8, [.int x_this_gargoyles, .int x_this_people, .int x_this_year, .ref q_this_jaw, .ref q_this_brow, .ref q_this_stone, .ref q_this_age, .ref q_this_family, .ref q_this_seat])), (q_this_jaw, .inl (ct 0, 16, .inl f_this_jaw)), (q_this_brow, .inl (ct 0, 16, .inl f_this_brow)), (q_this_stone, .inl (ct 0, 8, .inl f_this_stone)), (q_this_age, .inl (ct 0, 8, .inl f_this_age)), (q_this_family, .inl (ct 0, 8, .inl f_this_family)), (q_this_seat, .inl (ct 0, 8, .inl f_this_seat))] [.ref q_this] (fun r : Int32 => iv r (-1) 7 ∧ r = m_State_mostStone x_this_gargoyles f_this_stone) := by
  refine cP_of (cc := cX8_mostStone) (maxL := 4) (by decide) rfl (Nat.le_of_ble_eq_true rfl) ?_
  intro p e s m args below meth c Q hx hb hml hts hown hK hP hE ls hl
  have hl : lv_has ls 4 [(0, .ref q_this)] := hl
  obtain ⟨R, hRe⟩ : ∃ R : (Int32), R = m_State_mostStone x_this_gargoyles f_this_stone := ⟨_, rfl⟩
  have hR : uy_Q R (fun z : (Int32) => z) (m_State_mostStone x_this_gargoyles f_this_stone) := hRe
  have hin_State : ∀ w ∈ u_ws RX8 TX8 9, w ∈ wsX8_mostStone := fun w h => List.mem_cons_of_mem _ (List.mem_append_right _ (h))
  have K6 : ∀ (n6 : Nat) (v1c6 v2c6 v3c6 : Int32) (ls : Array Slot), iv v1c6 (-1) 7 → iv v3c6 0 8 → (8 - v3c6.toInt).toNat < n6 → uy_Q R (fun z : (Int32) => z) (m_State_mostStone_k6 x_this_gargoyles f_this_stone (v1c6, v2c6, v3c6)) → lv_has ls 4 [(0, .ref q_this), (1, .int v1c6), (2, .int v2c6), (3, .int v3c6)] → W p l e rm_State_mostStone s m args below meth c s.heap [] 0 0 Q (F0 m 6 ls []) := by
    intro n6
    induction n6 with
    | zero => intro v1c6 v2c6 v3c6 ls i_v1c6 i_v3c6 hm6 hR hl; exact absurd hm6 (Nat.not_lt_zero _)
    | succ n6 ih6 =>
      intro v1c6 v2c6 v3c6 ls i_v1c6 i_v3c6 hm6 hR hl
      replace hR : uy_Q R (uy_E (fun z : (Int32) => z) (m_State_mostStone_k6 x_this_gargoyles f_this_stone)) (m_State_mostStone_b6 x_this_gargoyles f_this_stone v1c6 v2c6 v3c6) := uy_whs hR
      have K33 : ∀ (v1c33 v2c33 v3c33 : Int32) (ls : Array Slot), iv v1c33 (-1) 7 → iv v3c33 0 7 → (8 - v3c33.toInt).toNat < n6 + 1 → uy_Q R (uy_E (fun z : (Int32) => z) (m_State_mostStone_k6 x_this_gargoyles f_this_stone)) (m_State_mostStone_k33 x_this_gargoyles f_this_stone v1c33 v2c33 v3c33) → lv_has ls 4 [(0, .ref q_this), (1, .int v1c33), (2, .int v2c33), (3, .int v3c33)] → W p l e rm_State_mostStone s m args below meth c s.heap [] 0 0 Q (F0 m 33 ls []) := by
        intro v1c33 v2c33 v3c33 ls i_v1c33 i_v3c33 hm6 hR hl
        delta m_State_mostStone_k33 at hR
        obtain ⟨x1, ex1⟩ : ∃ z : Int32, z = v3c33 + (1 : Int32) := ⟨_, rfl⟩
        refine lv_iinc (v := x1) (lv' := [(3, .int x1), (0, .ref q_this), (1, .int v1c33), (2, .int v2c33)]) hx hb dX8_mostStone_33 hl (k := 3) rfl (by rw [ex1]; rfl) (by decide) rfl (fun ls hl => ?_)
        replace hR := uy_Ls ex1 hR
        have i_x1 : iv x1 1 8 := iv_add ex1 i_v3c33 (iv_lit (1 : Int32) (by decide) : iv (1 : Int32) 1 1) (by decide) (by decide) (by decide) (by decide)
        refine lv_goto (tgt := 6) hx hb dX8_mostStone_36 (by decide) ?_
        exact ih6 v1c33 v2c33 x1 ls i_v1c33 (iv_w i_x1 (by decide) (by decide)) (ms_up ex1 i_v3c33 (by decide) (by decide) hm6) (uy_Ql hR) (lv_sub hl [1, 2, 3, 0] rfl)
      delta m_State_mostStone_b6 at hR
      refine lv_iload_n hx hb dX8_mostStone_6 rfl (lv_at hl 3 rfl) ?_
      refine lv_aload_n hx hb dX8_mostStone_7 rfl (lv_at hl 0 rfl) ?_
      refine va_get (D := D) (ci := 8) (v := .int x_this_gargoyles) (C := RX8) (T := TX8) (N := 9) hx hb hts hin_State hown hK hP 0 rfl rfl 0 (by decide) (hts (.fieldLink RX8 30 "GutterSeats$State" "gargoyles" "I") (List.mem_cons_of_mem _ (List.mem_append_left _ (List.mem_of_getElem? (i := 0) (by first | rfl | decide +kernel))))) (fun _ h9 => h9) rfl dX8_mostStone_8 ?_
      refine lv_icmp_ge (tgt := 39) hx hb dX8_mostStone_11 (by decide) (fun c2 => ?_) (fun c2 => ?_)
      ·
        replace hR := uy_Qp c2 hR
        refine lv_iload_n hx hb dX8_mostStone_39 rfl (lv_at hl 1 rfl) ?_
        exact hE _ _ _ ⟨i_v1c6, ((uy_Q0 (uy_Qr hR)).symm.trans hRe)⟩ dX8_mostStone_40
      ·
        replace hR := uy_Qn c2 hR
        have j3 : iv v3c6 0 7 := iv_ltL (iv_nle c2) i_v3c6 i_x_this_gargoyles (by decide)
        have j4 : iv x_this_gargoyles 1 8 := iv_ltR (iv_nle c2) i_v3c6 i_x_this_gargoyles (by decide)
        refine lv_aload_n hx hb dX8_mostStone_14 rfl (lv_at hl 0 rfl) ?_
        refine va_get (D := D) (ci := 8) (v := .ref q_this_stone) (C := RX8) (T := TX8) (N := 9) hx hb hts hin_State hown hK hP 0 rfl rfl 5 (by decide) (hts (.fieldLink RX8 18 "GutterSeats$State" "stone" "[I") (List.mem_cons_of_mem _ (List.mem_append_left _ (List.mem_of_getElem? (i := 1) (by first | rfl | decide +kernel))))) (fun _ h9 => h9) rfl dX8_mostStone_15 ?_
        refine lv_iload_n hx hb dX8_mostStone_18 rfl (lv_at hl 3 rfl) ?_
        have n5 : vp_in v3c6 8 := iv_in j3 (by decide) (by decide)
        refine va_iald hx hb hK hP 3 0 rfl rfl n5 dX8_mostStone_19 ?_
        refine lv_topi (fun x6 ex6 => ?_)
        replace hR := uy_Ls ex6 hR
        refine lv_iload_n hx hb dX8_mostStone_20 rfl (lv_at hl 2 rfl) ?_
        refine lv_icmp_le (tgt := 33) hx hb dX8_mostStone_21 (by decide) (fun c7 => ?_) (fun c7 => ?_)
        ·
          replace hR := uy_Qp c7 hR
          exact K33 v1c6 v2c6 v3c6 ls i_v1c6 j3 hm6 hR (lv_sub hl [0, 1, 2, 3] rfl)
        ·
          replace hR := uy_Qn c7 hR
          have j8 : iv v2c6 (-2147483648) 2147483646 := iv_ltL (iv_nle c7) (iv_any v2c6) (iv_any x6) (by decide)
          have j9 : iv x6 (-2147483647) 2147483647 := iv_ltR (iv_nle c7) (iv_any v2c6) (iv_any x6) (by decide)
          refine lv_iload_n hx hb dX8_mostStone_24 rfl (lv_at hl 3 rfl) ?_
          refine lv_istore_n (lv' := [(1, .int v3c6), (0, .ref q_this), (2, .int v2c6), (3, .int v3c6)]) hx hb dX8_mostStone_25 rfl hl (by decide) rfl (fun ls hl => ?_)
          refine lv_aload_n hx hb dX8_mostStone_26 rfl (lv_at hl 1 rfl) ?_
          refine va_get (D := D) (ci := 8) (v := .ref q_this_stone) (C := RX8) (T := TX8) (N := 9) hx hb hts hin_State hown hK hP 0 rfl rfl 5 (by decide) (hts (.fieldLink RX8 18 "GutterSeats$State" "stone" "[I") (List.mem_cons_of_mem _ (List.mem_append_left _ (List.mem_of_getElem? (i := 1) (by first | rfl | decide +kernel))))) (fun _ h9 => h9) rfl dX8_mostStone_27 ?_
          refine lv_iload_n hx hb dX8_mostStone_30 rfl (lv_at hl 3 rfl) ?_
          have n10 : vp_in v3c6 8 := iv_in j3 (by decide) (by decide)
          refine va_iald hx hb hK hP 3 0 rfl rfl n10 dX8_mostStone_31 ?_
          refine lv_tope ex6.symm ?_
          refine lv_istore_n (lv' := [(2, .int x6), (1, .int v3c6), (0, .ref q_this), (3, .int v3c6)]) hx hb dX8_mostStone_32 rfl hl (by decide) rfl (fun ls hl => ?_)
          exact K33 v3c6 x6 v3c6 ls (iv_w j3 (by decide) (by decide)) j3 hm6 hR (lv_sub hl [2, 1, 0, 3] rfl)
  delta m_State_mostStone at hR
  refine lv_iconst (v := -1) hx hb dX8_mostStone_0 (by decide) ?_
  refine lv_istore_n (lv' := [(1, .int (-1 : Int32)), (0, .ref q_this)]) hx hb dX8_mostStone_1 rfl hl (by decide) rfl (fun ls hl => ?_)
  refine lv_iconst (v := -1) hx hb dX8_mostStone_2 (by decide) ?_
  refine lv_istore_n (lv' := [(2, .int (-1 : Int32)), (1, .int (-1 : Int32)), (0, .ref q_this)]) hx hb dX8_mostStone_3 rfl hl (by decide) rfl (fun ls hl => ?_)
  refine lv_iconst (v := 0) hx hb dX8_mostStone_4 (by decide) ?_
  refine lv_istore_n (lv' := [(3, .int (0 : Int32)), (2, .int (-1 : Int32)), (1, .int (-1 : Int32)), (0, .ref q_this)]) hx hb dX8_mostStone_5 rfl hl (by decide) rfl (fun ls hl => ?_)
  exact K6 _ (-1 : Int32) (-1 : Int32) (0 : Int32) ls (iv_lit (-1 : Int32) (by decide) : iv (-1 : Int32) (-1) 7) (iv_lit (0 : Int32) (by decide) : iv (0 : Int32) 0 8) (Nat.lt_succ_self _) hR (lv_sub hl [3, 2, 1, 0] rfl)
abbrev rm_State_gainOf : Room := { frames := 1, cells := 0, slots := 0, locals := 23 }
set_option maxHeartbeats 4000000 in
set_option maxRecDepth 100000 in
theorem c_State_gainOf (l : Launch) (D : va_G) (ct : Nat → ClassId) (q_this q_this_jaw q_this_brow q_this_stone q_this_age q_this_family q_this_seat : Nat) (x_this_gargoyles x_this_people x_this_year : Int32) (f_this_jaw f_this_brow f_this_stone f_this_age f_this_family f_this_seat : Nat → Int32) (p1 : Int32) (i_x_this_gargoyles : iv x_this_gargoyles 0 8) (i_x_this_people : iv x_this_people 0 8) (i_x_this_year : iv x_this_year 0 5000) (a_f_this_seat : av f_this_seat 8 (-1) 7) (i_p1 : iv p1 0 7) : cP l yX8_gainOf wsX8_gainOf rm_State_gainOf D ct [(q_this, .inr (8, [.int x_this_gargoyles, .int x_this_people, .int x_this_year, .ref q_this_jaw, .ref q_this_brow, .ref q_this_stone, .ref q_this_age, .ref q_this_family, .ref q_this_seat])), (q_this_jaw, .inl (ct 0, 16, .inl f_this_jaw)), (q_this_brow, .inl (ct 0, 16, .inl f_this_brow)), (q_this_stone, .inl (ct 0, 8, .inl f_this_stone)), (q_this_age, .inl (ct 0, 8, .inl f_this_age)), (q_this_family, .inl (ct 0, 8, .inl f_this_family)), (q_this_seat, .inl (ct 0, 8, .inl f_this_seat))] [.ref q_this, .int p1] (fun r : Int32 => r = m_State_gainOf x_this_people f_this_stone f_this_family f_this_seat p1) := by
  refine cP_of (cc := cX8_gainOf) (maxL := 2) (by decide) rfl (Nat.le_of_ble_eq_true rfl) ?_
  intro p e s m args below meth c Q hx hb hml hts hown hK hP hE ls hl
  have hl : lv_has ls 2 [(0, .ref q_this), (1, .int p1)] := hl
  obtain ⟨R, hRe⟩ : ∃ R : (Int32), R = m_State_gainOf x_this_people f_this_stone f_this_family f_this_seat p1 := ⟨_, rfl⟩
  have hR : uy_Q R (fun z : (Int32) => z) (m_State_gainOf x_this_people f_this_stone f_this_family f_this_seat p1) := hRe
  have hin_State : ∀ w ∈ u_ws RX8 TX8 9, w ∈ wsX8_gainOf := fun w h => List.mem_cons_of_mem _ (List.mem_append_right _ (h))
  delta m_State_gainOf at hR
  refine lv_aload_n hx hb dX8_gainOf_0 rfl (lv_at hl 0 rfl) ?_
  refine va_get (D := D) (ci := 8) (v := .ref q_this_stone) (C := RX8) (T := TX8) (N := 9) hx hb hts hin_State hown hK hP 0 rfl rfl 5 (by decide) (hts (.fieldLink RX8 18 "GutterSeats$State" "stone" "[I") (List.mem_cons_of_mem _ (List.mem_append_left _ (List.mem_of_getElem? (i := 0) (by first | rfl | decide +kernel))))) (fun _ h9 => h9) rfl dX8_gainOf_1 ?_
  refine lv_iload_n hx hb dX8_gainOf_4 rfl (lv_at hl 1 rfl) ?_
  have n1 : vp_in p1 8 := iv_in i_p1 (by decide) (by decide)
  refine va_iald hx hb hK hP 3 0 rfl rfl n1 dX8_gainOf_5 ?_
  refine lv_topi (fun x2 ex2 => ?_)
  replace hR := uy_Ls ex2 hR
  refine lv_bipush (v := 10) hx hb dX8_gainOf_6 (by decide) ?_
  refine lv_idiv hx hb dX8_gainOf_8 (ne0_iv (iv_lit (10 : Int32) (by decide) : iv (10 : Int32) 10 10) (by decide)) ?_
  refine lv_topi (fun x3 ex3 => ?_)
  replace hR := uy_Ls ex3 hR
  refine lv_iconst (v := 2) hx hb dX8_gainOf_9 (by decide) ?_
  refine lv_aload_n hx hb dX8_gainOf_10 rfl (lv_at hl 0 rfl) ?_
  refine lv_iload_n hx hb dX8_gainOf_11 rfl (lv_at hl 1 rfl) ?_
  refine kPV (rest := [.int (2 : Int32), .int x3]) (ci := 8) ⟨hx, hb, hml, hown, hts⟩ (c_State_familyBits l D ct q_this q_this_jaw q_this_brow q_this_stone q_this_age q_this_family q_this_seat x_this_gargoyles x_this_people x_this_year f_this_jaw f_this_brow f_this_stone f_this_age f_this_family f_this_seat p1 i_x_this_gargoyles i_x_this_people i_x_this_year a_f_this_seat) (cwV 1 hts gX8_gainOf_X8_familyBits rfl rfl rfl (by first | exact hdX8_familyBits_1 | decide +kernel) ⟨(Nat.le_of_ble_eq_true rfl), (Nat.le_of_ble_eq_true rfl)⟩) hK hP [0, 1, 2, 3, 4, 5, 6] rfl rfl rfl rfl rfl hl.1 rfl (Nat.le_of_ble_eq_true rfl) dX8_gainOf_12 ⟨(Nat.le_of_ble_eq_true rfl), (Nat.le_of_ble_eq_true rfl)⟩ (fun r4 hr4 => ?_)
  have m5 : r4 = m_State_familyBits x_this_people f_this_family p1 := hr4
  replace hR := uy_Cs1 m5 hR
  refine lv_aload_n hx hb dX8_gainOf_15 rfl (lv_at hl 0 rfl) ?_
  refine kPV (rest := [.int r4, .int (2 : Int32), .int x3]) (ci := 8) ⟨hx, hb, hml, hown, hts⟩ (c_State_sitterBits l D ct q_this q_this_jaw q_this_brow q_this_stone q_this_age q_this_family q_this_seat x_this_gargoyles x_this_people x_this_year f_this_jaw f_this_brow f_this_stone f_this_age f_this_family f_this_seat i_x_this_gargoyles i_x_this_people i_x_this_year a_f_this_seat) (cwV 0 hts gX8_gainOf_X8_sitterBits rfl rfl rfl (by first | exact hdX8_sitterBits_0 | decide +kernel) ⟨(Nat.le_of_ble_eq_true rfl), (Nat.le_of_ble_eq_true rfl)⟩) hK hP [0, 1, 2, 3, 4, 5, 6] rfl rfl rfl rfl rfl hl.1 rfl (Nat.le_of_ble_eq_true rfl) dX8_gainOf_16 ⟨(Nat.le_of_ble_eq_true rfl), (Nat.le_of_ble_eq_true rfl)⟩ (fun r6 hr6 => ?_)
  have m7 : r6 = m_State_sitterBits x_this_people f_this_seat := hr6
  replace hR := uy_Cs1 m7 hR
  refine lv_iand hx hb dX8_gainOf_19 ?_
  refine lv_topi (fun x8 ex8 => ?_)
  replace hR := uy_Ls ex8 hR
  refine kPS (rest := [.int (2 : Int32), .int x3]) ⟨hx, hb, hml, hown, hts⟩ (c_J6_bitCount l D ct x8) (va_cwS 1 hts gX8_gainOf_J6_bitCount_0f7a4 rfl rfl rfl (by first | exact hdJ6_bitCount_0f7a4_1.2 | decide +kernel) ⟨(Nat.le_of_ble_eq_true rfl), (Nat.le_of_ble_eq_true rfl)⟩) hK hP [] rfl rfl hl.1 rfl (Nat.le_of_ble_eq_true rfl) dX8_gainOf_20 ⟨(Nat.le_of_ble_eq_true rfl), (Nat.le_of_ble_eq_true rfl)⟩ (fun r9 hr9 => ?_)
  have m10 : r9 = m_J6_bitCount x8 := hr9
  replace hR := uy_Cs1 m10 hR
  refine lv_imul hx hb dX8_gainOf_23 ?_
  refine lv_topi (fun x11 ex11 => ?_)
  replace hR := uy_Ls ex11 hR
  refine lv_iadd hx hb dX8_gainOf_24 ?_
  refine lv_topi (fun x12 ex12 => ?_)
  replace hR := uy_Ls ex12 hR
  exact hE _ _ _ ((uy_Q0 hR).symm.trans hRe) dX8_gainOf_25
abbrev rm_State_setFace : Room := { frames := 0, cells := 0, slots := 0, locals := 0 }
set_option maxHeartbeats 4000000 in
set_option maxRecDepth 100000 in
theorem c_State_setFace (l : Launch) (D : va_G) (ct : Nat → ClassId) (q_this q_this_jaw q_this_brow q_this_stone q_this_age q_this_family q_this_seat : Nat) (sz : Nat) (x_this_gargoyles x_this_people x_this_year : Int32) (f_this_jaw f_this_brow f_this_stone f_this_age f_this_family f_this_seat : Nat → Int32) (p1 p2 p3 : Int32) (i_x_this_gargoyles : iv x_this_gargoyles 0 8) (i_x_this_people : iv x_this_people 0 8) (i_x_this_year : iv x_this_year 0 5000) (a_f_this_seat : av f_this_seat 8 (-1) 7) (i_p1 : iv p1 0 15) : cV l yX8_setFace wsX8_setFace rm_State_setFace D ct [(q_this, .inr (8, [.int x_this_gargoyles, .int x_this_people, .int x_this_year, .ref q_this_jaw, .ref q_this_brow, .ref q_this_stone, .ref q_this_age, .ref q_this_family, .ref q_this_seat])), (q_this_jaw, .inl (ct 0, 16, .inl f_this_jaw)), (q_this_brow, .inl (ct 0, 16, .inl f_this_brow)), (q_this_stone, .inl (ct 0, 8, .inl f_this_stone)), (q_this_age, .inl (ct 0, 8, .inl f_this_age)), (q_this_family, .inl (ct 0, 8, .inl f_this_family)), (q_this_seat, .inl (ct 0, 8, .inl f_this_seat))] sz [.ref q_this, .int p1, .int p2, .int p3] (fun u : (Nat → Int32) × (Nat → Int32) => (u.1, u.2) = m_State_setFace f_this_jaw f_this_brow p1 p2 p3) (fun u : (Nat → Int32) × (Nat → Int32) => [(q_this, .inr (8, [.int x_this_gargoyles, .int x_this_people, .int x_this_year, .ref q_this_jaw, .ref q_this_brow, .ref q_this_stone, .ref q_this_age, .ref q_this_family, .ref q_this_seat])), (q_this_jaw, .inl (ct 0, 16, .inl u.1)), (q_this_brow, .inl (ct 0, 16, .inl u.2)), (q_this_stone, .inl (ct 0, 8, .inl f_this_stone)), (q_this_age, .inl (ct 0, 8, .inl f_this_age)), (q_this_family, .inl (ct 0, 8, .inl f_this_family)), (q_this_seat, .inl (ct 0, 8, .inl f_this_seat))]) := by
  refine cV_of (cc := cX8_setFace) (maxL := 4) (by decide) rfl (Nat.le_of_ble_eq_true rfl) ?_
  intro p e s m args below meth c Q A hx hb hml hts hown hK hP hD hA hAe hsz hname hE ls hl
  have hS : va_S A s.heap s.heap [] := va_S.rf
  have hP : va_P D vwCl [(q_this, .inr (8, [.int x_this_gargoyles, .int x_this_people, .int x_this_year, .ref q_this_jaw, .ref q_this_brow, .ref q_this_stone, .ref q_this_age, .ref q_this_family, .ref q_this_seat])), (q_this_jaw, .inl (ct 0, 16, .inl f_this_jaw)), (q_this_brow, .inl (ct 0, 16, .inl f_this_brow)), (q_this_stone, .inl (ct 0, 8, .inl f_this_stone)), (q_this_age, .inl (ct 0, 8, .inl f_this_age)), (q_this_family, .inl (ct 0, 8, .inl f_this_family)), (q_this_seat, .inl (ct 0, 8, .inl f_this_seat))] s.heap := hP
  have hD : va_D A [(q_this, .inr (8, [.int x_this_gargoyles, .int x_this_people, .int x_this_year, .ref q_this_jaw, .ref q_this_brow, .ref q_this_stone, .ref q_this_age, .ref q_this_family, .ref q_this_seat])), (q_this_jaw, .inl (ct 0, 16, .inl f_this_jaw)), (q_this_brow, .inl (ct 0, 16, .inl f_this_brow)), (q_this_stone, .inl (ct 0, 8, .inl f_this_stone)), (q_this_age, .inl (ct 0, 8, .inl f_this_age)), (q_this_family, .inl (ct 0, 8, .inl f_this_family)), (q_this_seat, .inl (ct 0, 8, .inl f_this_seat))] := hD
  have hl : lv_has ls 4 [(0, .ref q_this), (1, .int p1), (2, .int p2), (3, .int p3)] := hl
  obtain ⟨R, hRe⟩ : ∃ R : ((Nat → Int32) × (Nat → Int32)), R = m_State_setFace f_this_jaw f_this_brow p1 p2 p3 := ⟨_, rfl⟩
  have hR : uy_Q R (fun z : ((Nat → Int32) × (Nat → Int32)) => z) (m_State_setFace f_this_jaw f_this_brow p1 p2 p3) := hRe
  have hin_State : ∀ w ∈ u_ws RX8 TX8 9, w ∈ wsX8_setFace := fun w h => List.mem_cons_of_mem _ (List.mem_append_right _ (h))
  delta m_State_setFace at hR
  refine lv_aload_n hx hb dX8_setFace_0 rfl (lv_at hl 0 rfl) ?_
  refine va_get (D := D) (ci := 8) (v := .ref q_this_jaw) (C := RX8) (T := TX8) (N := 9) hx hb hts hin_State hown hK hP 0 rfl rfl 3 (by decide) (hts (.fieldLink RX8 9 "GutterSeats$State" "jaw" "[I") (List.mem_cons_of_mem _ (List.mem_append_left _ (List.mem_of_getElem? (i := 0) (by first | rfl | decide +kernel))))) (fun _ h9 => h9) rfl dX8_setFace_1 ?_
  refine lv_iload_n hx hb dX8_setFace_4 rfl (lv_at hl 1 rfl) ?_
  refine lv_iload_n hx hb dX8_setFace_5 rfl (lv_at hl 2 rfl) ?_
  have n1 : vp_in p1 16 := iv_in i_p1 (by decide) (by decide)
  refine va_iast hx hb hK hP hD hS 1 0 rfl rfl n1 dX8_setFace_6 (fun H locs hP hD hS => ?_)
  obtain ⟨f2, ef2⟩ : ∃ z : Nat → Int32, z = upd f_this_jaw p1.toNatClampNeg p2 := ⟨_, rfl⟩
  replace hR := uy_Ls ef2 hR
  rw [← ef2] at hP hD
  have hP : va_P D vwCl [(q_this, .inr (8, [.int x_this_gargoyles, .int x_this_people, .int x_this_year, .ref q_this_jaw, .ref q_this_brow, .ref q_this_stone, .ref q_this_age, .ref q_this_family, .ref q_this_seat])), (q_this_jaw, .inl (ct 0, 16, .inl f2)), (q_this_brow, .inl (ct 0, 16, .inl f_this_brow)), (q_this_stone, .inl (ct 0, 8, .inl f_this_stone)), (q_this_age, .inl (ct 0, 8, .inl f_this_age)), (q_this_family, .inl (ct 0, 8, .inl f_this_family)), (q_this_seat, .inl (ct 0, 8, .inl f_this_seat))] H := hP
  have hD : va_D A [(q_this, .inr (8, [.int x_this_gargoyles, .int x_this_people, .int x_this_year, .ref q_this_jaw, .ref q_this_brow, .ref q_this_stone, .ref q_this_age, .ref q_this_family, .ref q_this_seat])), (q_this_jaw, .inl (ct 0, 16, .inl f2)), (q_this_brow, .inl (ct 0, 16, .inl f_this_brow)), (q_this_stone, .inl (ct 0, 8, .inl f_this_stone)), (q_this_age, .inl (ct 0, 8, .inl f_this_age)), (q_this_family, .inl (ct 0, 8, .inl f_this_family)), (q_this_seat, .inl (ct 0, 8, .inl f_this_seat))] := hD
  refine lv_aload_n hx hb dX8_setFace_7 rfl (lv_at hl 0 rfl) ?_
  refine va_get (D := D) (ci := 8) (v := .ref q_this_brow) (C := RX8) (T := TX8) (N := 9) hx hb hts hin_State hown hK hP 0 rfl rfl 4 (by decide) (hts (.fieldLink RX8 15 "GutterSeats$State" "brow" "[I") (List.mem_cons_of_mem _ (List.mem_append_left _ (List.mem_of_getElem? (i := 1) (by first | rfl | decide +kernel))))) (fun _ h9 => h9) rfl dX8_setFace_8 ?_
  refine lv_iload_n hx hb dX8_setFace_11 rfl (lv_at hl 1 rfl) ?_
  refine lv_iload_n hx hb dX8_setFace_12 rfl (lv_at hl 3 rfl) ?_
  have n3 : vp_in p1 16 := iv_in i_p1 (by decide) (by decide)
  refine va_iast hx hb hK hP hD hS 2 0 rfl rfl n3 dX8_setFace_13 (fun H locs hP hD hS => ?_)
  obtain ⟨f4, ef4⟩ : ∃ z : Nat → Int32, z = upd f_this_brow p1.toNatClampNeg p3 := ⟨_, rfl⟩
  replace hR := uy_Ls ef4 hR
  rw [← ef4] at hP hD
  have hP : va_P D vwCl [(q_this, .inr (8, [.int x_this_gargoyles, .int x_this_people, .int x_this_year, .ref q_this_jaw, .ref q_this_brow, .ref q_this_stone, .ref q_this_age, .ref q_this_family, .ref q_this_seat])), (q_this_jaw, .inl (ct 0, 16, .inl f2)), (q_this_brow, .inl (ct 0, 16, .inl f4)), (q_this_stone, .inl (ct 0, 8, .inl f_this_stone)), (q_this_age, .inl (ct 0, 8, .inl f_this_age)), (q_this_family, .inl (ct 0, 8, .inl f_this_family)), (q_this_seat, .inl (ct 0, 8, .inl f_this_seat))] H := hP
  have hD : va_D A [(q_this, .inr (8, [.int x_this_gargoyles, .int x_this_people, .int x_this_year, .ref q_this_jaw, .ref q_this_brow, .ref q_this_stone, .ref q_this_age, .ref q_this_family, .ref q_this_seat])), (q_this_jaw, .inl (ct 0, 16, .inl f2)), (q_this_brow, .inl (ct 0, 16, .inl f4)), (q_this_stone, .inl (ct 0, 8, .inl f_this_stone)), (q_this_age, .inl (ct 0, 8, .inl f_this_age)), (q_this_family, .inl (ct 0, 8, .inl f_this_family)), (q_this_seat, .inl (ct 0, 8, .inl f_this_seat))] := hD
  exact hE (f2, f4) _ _ _ _ ((uy_Q0 hR).symm.trans hRe) hP hD hS dX8_setFace_14
abbrev rm_State_setStone : Room := { frames := 1, cells := 0, slots := 0, locals := 23 }
set_option maxHeartbeats 4000000 in
set_option maxRecDepth 100000 in
theorem c_State_setStone (l : Launch) (D : va_G) (ct : Nat → ClassId) (q_this q_this_jaw q_this_brow q_this_stone q_this_age q_this_family q_this_seat : Nat) (sz : Nat) (x_this_gargoyles x_this_people x_this_year : Int32) (f_this_jaw f_this_brow f_this_stone f_this_age f_this_family f_this_seat : Nat → Int32) (p1 p2 : Int32) (i_x_this_gargoyles : iv x_this_gargoyles 0 8) (i_x_this_people : iv x_this_people 0 8) (i_x_this_year : iv x_this_year 0 5000) (a_f_this_seat : av f_this_seat 8 (-1) 7) (i_p1 : iv p1 0 7) : cV l yX8_setStone wsX8_setStone rm_State_setStone D ct [(q_this, .inr (8, [.int x_this_gargoyles, .int x_this_people, .int x_this_year, .ref q_this_jaw, .ref q_this_brow, .ref q_this_stone, .ref q_this_age, .ref q_this_family, .ref q_this_seat])), (q_this_jaw, .inl (ct 0, 16, .inl f_this_jaw)), (q_this_brow, .inl (ct 0, 16, .inl f_this_brow)), (q_this_stone, .inl (ct 0, 8, .inl f_this_stone)), (q_this_age, .inl (ct 0, 8, .inl f_this_age)), (q_this_family, .inl (ct 0, 8, .inl f_this_family)), (q_this_seat, .inl (ct 0, 8, .inl f_this_seat))] sz [.ref q_this, .int p1, .int p2] (fun u : (Nat → Int32) × (Nat → Int32) × (Nat → Int32) => (u.1, u.2.1, u.2.2) = m_State_setStone f_this_jaw f_this_brow f_this_stone p1 p2) (fun u : (Nat → Int32) × (Nat → Int32) × (Nat → Int32) => [(q_this, .inr (8, [.int x_this_gargoyles, .int x_this_people, .int x_this_year, .ref q_this_jaw, .ref q_this_brow, .ref q_this_stone, .ref q_this_age, .ref q_this_family, .ref q_this_seat])), (q_this_jaw, .inl (ct 0, 16, .inl u.1)), (q_this_brow, .inl (ct 0, 16, .inl u.2.1)), (q_this_stone, .inl (ct 0, 8, .inl u.2.2)), (q_this_age, .inl (ct 0, 8, .inl f_this_age)), (q_this_family, .inl (ct 0, 8, .inl f_this_family)), (q_this_seat, .inl (ct 0, 8, .inl f_this_seat))]) := by
  refine cV_of (cc := cX8_setStone) (maxL := 3) (by decide) rfl (Nat.le_of_ble_eq_true rfl) ?_
  intro p e s m args below meth c Q A hx hb hml hts hown hK hP hD hA hAe hsz hname hE ls hl
  have hS : va_S A s.heap s.heap [] := va_S.rf
  have hP : va_P D vwCl [(q_this, .inr (8, [.int x_this_gargoyles, .int x_this_people, .int x_this_year, .ref q_this_jaw, .ref q_this_brow, .ref q_this_stone, .ref q_this_age, .ref q_this_family, .ref q_this_seat])), (q_this_jaw, .inl (ct 0, 16, .inl f_this_jaw)), (q_this_brow, .inl (ct 0, 16, .inl f_this_brow)), (q_this_stone, .inl (ct 0, 8, .inl f_this_stone)), (q_this_age, .inl (ct 0, 8, .inl f_this_age)), (q_this_family, .inl (ct 0, 8, .inl f_this_family)), (q_this_seat, .inl (ct 0, 8, .inl f_this_seat))] s.heap := hP
  have hD : va_D A [(q_this, .inr (8, [.int x_this_gargoyles, .int x_this_people, .int x_this_year, .ref q_this_jaw, .ref q_this_brow, .ref q_this_stone, .ref q_this_age, .ref q_this_family, .ref q_this_seat])), (q_this_jaw, .inl (ct 0, 16, .inl f_this_jaw)), (q_this_brow, .inl (ct 0, 16, .inl f_this_brow)), (q_this_stone, .inl (ct 0, 8, .inl f_this_stone)), (q_this_age, .inl (ct 0, 8, .inl f_this_age)), (q_this_family, .inl (ct 0, 8, .inl f_this_family)), (q_this_seat, .inl (ct 0, 8, .inl f_this_seat))] := hD
  have hl : lv_has ls 3 [(0, .ref q_this), (1, .int p1), (2, .int p2)] := hl
  obtain ⟨R, hRe⟩ : ∃ R : ((Nat → Int32) × (Nat → Int32) × (Nat → Int32)), R = m_State_setStone f_this_jaw f_this_brow f_this_stone p1 p2 := ⟨_, rfl⟩
  have hR : uy_Q R (fun z : ((Nat → Int32) × (Nat → Int32) × (Nat → Int32)) => z) (m_State_setStone f_this_jaw f_this_brow f_this_stone p1 p2) := hRe
  have hin_State : ∀ w ∈ u_ws RX8 TX8 9, w ∈ wsX8_setStone := fun w h => List.mem_cons_of_mem _ (List.mem_append_right _ (h))
  delta m_State_setStone at hR
  refine lv_aload_n hx hb dX8_setStone_0 rfl (lv_at hl 0 rfl) ?_
  refine va_get (D := D) (ci := 8) (v := .ref q_this_stone) (C := RX8) (T := TX8) (N := 9) hx hb hts hin_State hown hK hP 0 rfl rfl 5 (by decide) (hts (.fieldLink RX8 18 "GutterSeats$State" "stone" "[I") (List.mem_cons_of_mem _ (List.mem_append_left _ (List.mem_of_getElem? (i := 0) (by first | rfl | decide +kernel))))) (fun _ h9 => h9) rfl dX8_setStone_1 ?_
  refine lv_iload_n hx hb dX8_setStone_4 rfl (lv_at hl 1 rfl) ?_
  refine lv_iconst (v := 0) hx hb dX8_setStone_5 (by decide) ?_
  refine lv_iload_n hx hb dX8_setStone_6 rfl (lv_at hl 2 rfl) ?_
  refine va_mmax hx hb (by rw [hml]; exact hl.1.symm) hown (hts (.methodLink RX8 59 Lib.Math.max.name) (List.mem_cons_of_mem _ (List.mem_append_left _ (List.mem_of_getElem? (i := 1) (by first | rfl | decide +kernel))))) (hts (.static Lib.Math.max.name) (List.mem_cons_of_mem _ (List.mem_append_left _ (List.mem_of_getElem? (i := 2) (by first | rfl | decide +kernel))))) (hts (.initialized "java/lang/Math") (List.mem_cons_of_mem _ (List.mem_append_left _ (List.mem_of_getElem? (i := 3) (by first | rfl | decide +kernel))))) (hts (.code Lib.Math.max.name Lib.Math.max.code 2 (some .int)) (List.mem_cons_of_mem _ (List.mem_append_left _ (List.mem_of_getElem? (i := 4) (by first | rfl | decide +kernel))))) (Nat.le_of_ble_eq_true rfl) (Nat.le_of_ble_eq_true rfl) (Nat.le_of_ble_eq_true rfl) (Nat.le_of_ble_eq_true rfl) dX8_setStone_7 ?_
  refine lv_topi (fun x1 ex1 => ?_)
  replace hR := uy_Ls ex1 hR
  have i_x1 : iv x1 0 2147483647 := iv_max ex1 (iv_lit (0 : Int32) (by decide) : iv (0 : Int32) 0 0) (iv_any p2) (by decide) (by decide) (by decide)
  have n2 : vp_in p1 8 := iv_in i_p1 (by decide) (by decide)
  refine va_iast hx hb hK hP hD hS 3 0 rfl rfl n2 dX8_setStone_10 (fun H locs hP hD hS => ?_)
  obtain ⟨f3, ef3⟩ : ∃ z : Nat → Int32, z = upd f_this_stone p1.toNatClampNeg x1 := ⟨_, rfl⟩
  replace hR := uy_Ls ef3 hR
  rw [← ef3] at hP hD
  have hP : va_P D vwCl [(q_this, .inr (8, [.int x_this_gargoyles, .int x_this_people, .int x_this_year, .ref q_this_jaw, .ref q_this_brow, .ref q_this_stone, .ref q_this_age, .ref q_this_family, .ref q_this_seat])), (q_this_jaw, .inl (ct 0, 16, .inl f_this_jaw)), (q_this_brow, .inl (ct 0, 16, .inl f_this_brow)), (q_this_stone, .inl (ct 0, 8, .inl f3)), (q_this_age, .inl (ct 0, 8, .inl f_this_age)), (q_this_family, .inl (ct 0, 8, .inl f_this_family)), (q_this_seat, .inl (ct 0, 8, .inl f_this_seat))] H := hP
  have hD : va_D A [(q_this, .inr (8, [.int x_this_gargoyles, .int x_this_people, .int x_this_year, .ref q_this_jaw, .ref q_this_brow, .ref q_this_stone, .ref q_this_age, .ref q_this_family, .ref q_this_seat])), (q_this_jaw, .inl (ct 0, 16, .inl f_this_jaw)), (q_this_brow, .inl (ct 0, 16, .inl f_this_brow)), (q_this_stone, .inl (ct 0, 8, .inl f3)), (q_this_age, .inl (ct 0, 8, .inl f_this_age)), (q_this_family, .inl (ct 0, 8, .inl f_this_family)), (q_this_seat, .inl (ct 0, 8, .inl f_this_seat))] := hD
  refine lv_aload_n hx hb dX8_setStone_11 rfl (lv_at hl 0 rfl) ?_
  refine va_get (D := D) (ci := 8) (v := .ref q_this_stone) (C := RX8) (T := TX8) (N := 9) hx hb hts hin_State hown hK hP 0 rfl rfl 5 (by decide) (hts (.fieldLink RX8 18 "GutterSeats$State" "stone" "[I") (List.mem_cons_of_mem _ (List.mem_append_left _ (List.mem_of_getElem? (i := 0) (by first | rfl | decide +kernel))))) (fun _ h9 => h9) rfl dX8_setStone_12 ?_
  refine lv_iload_n hx hb dX8_setStone_15 rfl (lv_at hl 1 rfl) ?_
  have n4 : vp_in p1 8 := iv_in i_p1 (by decide) (by decide)
  refine va_iald hx hb hK hP 3 0 rfl rfl n4 dX8_setStone_16 ?_
  refine lv_topi (fun x5 ex5 => ?_)
  replace hR := uy_Ls ex5 hR
  refine lv_if_ne (tgt := 27) hx hb dX8_setStone_17 (by decide) (fun c6 => ?_) (fun c6 => ?_)
  ·
    replace hR := uy_Qn c6 hR
    exact hE (f_this_jaw, f_this_brow, f3) _ _ _ _ ((uy_Q0 hR).symm.trans hRe) hP hD hS dX8_setStone_27
  ·
    replace hR := uy_Qp c6 hR
    have j7 : iv x5 0 0 := by rw [c6]; exact (iv_lit (0 : Int32) (by decide) : iv (0 : Int32) 0 0)
    refine lv_aload_n hx hb dX8_setStone_20 rfl (lv_at hl 0 rfl) ?_
    refine lv_iload_n hx hb dX8_setStone_21 rfl (lv_at hl 1 rfl) ?_
    refine lv_iconst (v := 0) hx hb dX8_setStone_22 (by decide) ?_
    refine lv_iconst (v := 0) hx hb dX8_setStone_23 (by decide) ?_
    refine kVV (rest := []) (ci := 8) (wr := []) ⟨hx, hb, hml, hown, hts⟩ (c_State_setFace l D ct q_this q_this_jaw q_this_brow q_this_stone q_this_age q_this_family q_this_seat H.size x_this_gargoyles x_this_people x_this_year f_this_jaw f_this_brow f3 f_this_age f_this_family f_this_seat p1 (0 : Int32) (0 : Int32) i_x_this_gargoyles i_x_this_people i_x_this_year a_f_this_seat (iv_w i_p1 (by decide) (by decide))) (cwV 3 hts gX8_setStone_X8_setFace rfl rfl rfl (by first | exact hdX8_setFace_3 | decide +kernel) ⟨(Nat.le_of_ble_eq_true rfl), (Nat.le_of_ble_eq_true rfl)⟩) hK hP hD hS hA [0, 1, 2, 3, 4, 5, 6] [] rfl rfl rfl rfl (by decide) rfl rfl rfl rfl hl.1 rfl (Nat.le_of_ble_eq_true rfl) dX8_setStone_24 ⟨(Nat.le_of_ble_eq_true rfl), (Nat.le_of_ble_eq_true rfl)⟩ (fun u9 H locs hr8 hP hD hS => ?_)
    obtain ⟨f10, f11⟩ := u9
    have hP := hP.sub (ws' := [(q_this, .inr (8, [.int x_this_gargoyles, .int x_this_people, .int x_this_year, .ref q_this_jaw, .ref q_this_brow, .ref q_this_stone, .ref q_this_age, .ref q_this_family, .ref q_this_seat])), (q_this_jaw, .inl (ct 0, 16, .inl f10)), (q_this_brow, .inl (ct 0, 16, .inl f11)), (q_this_stone, .inl (ct 0, 8, .inl f3)), (q_this_age, .inl (ct 0, 8, .inl f_this_age)), (q_this_family, .inl (ct 0, 8, .inl f_this_family)), (q_this_seat, .inl (ct 0, 8, .inl f_this_seat))]) [0, 1, 2, 3, 4, 5, 6] rfl
    have hD := hD.sub (ws' := [(q_this, .inr (8, [.int x_this_gargoyles, .int x_this_people, .int x_this_year, .ref q_this_jaw, .ref q_this_brow, .ref q_this_stone, .ref q_this_age, .ref q_this_family, .ref q_this_seat])), (q_this_jaw, .inl (ct 0, 16, .inl f10)), (q_this_brow, .inl (ct 0, 16, .inl f11)), (q_this_stone, .inl (ct 0, 8, .inl f3)), (q_this_age, .inl (ct 0, 8, .inl f_this_age)), (q_this_family, .inl (ct 0, 8, .inl f_this_family)), (q_this_seat, .inl (ct 0, 8, .inl f_this_seat))]) [0, 1, 2, 3, 4, 5, 6] (by decide) rfl
    have m12 : (f10, f11) = m_State_setFace f_this_jaw f_this_brow p1 (0 : Int32) (0 : Int32) := hr8
    replace hR := uy_Cs2 m12 hR
    exact hE (f10, f11, f3) _ _ _ _ ((uy_Q0 hR).symm.trans hRe) hP hD hS dX8_setStone_27
abbrev rm_State_carve : Room := { frames := 1, cells := 0, slots := 0, locals := 23 }
set_option maxHeartbeats 4000000 in
set_option maxRecDepth 100000 in
theorem c_State_carve (l : Launch) (D : va_G) (ct : Nat → ClassId) (q_this q_this_jaw q_this_brow q_this_stone q_this_age q_this_family q_this_seat : Nat) (sz : Nat) (x_this_gargoyles x_this_people x_this_year : Int32) (f_this_jaw f_this_brow f_this_stone f_this_age f_this_family f_this_seat : Nat → Int32) (p1 p2 p3 : Int32) (i_x_this_gargoyles : iv x_this_gargoyles 0 8) (i_x_this_people : iv x_this_people 0 8) (i_x_this_year : iv x_this_year 0 5000) (a_f_this_seat : av f_this_seat 8 (-1) 7) (i_p1 : iv p1 0 7) : cV l yX8_carve wsX8_carve rm_State_carve D ct [(q_this, .inr (8, [.int x_this_gargoyles, .int x_this_people, .int x_this_year, .ref q_this_jaw, .ref q_this_brow, .ref q_this_stone, .ref q_this_age, .ref q_this_family, .ref q_this_seat])), (q_this_jaw, .inl (ct 0, 16, .inl f_this_jaw)), (q_this_brow, .inl (ct 0, 16, .inl f_this_brow)), (q_this_stone, .inl (ct 0, 8, .inl f_this_stone)), (q_this_age, .inl (ct 0, 8, .inl f_this_age)), (q_this_family, .inl (ct 0, 8, .inl f_this_family)), (q_this_seat, .inl (ct 0, 8, .inl f_this_seat))] sz [.ref q_this, .int p1, .int p2, .int p3] (fun u : (Nat → Int32) × (Nat → Int32) × (Nat → Int32) => (u.1, u.2.1, u.2.2) = m_State_carve f_this_jaw f_this_brow f_this_stone p1 p2 p3) (fun u : (Nat → Int32) × (Nat → Int32) × (Nat → Int32) => [(q_this, .inr (8, [.int x_this_gargoyles, .int x_this_people, .int x_this_year, .ref q_this_jaw, .ref q_this_brow, .ref q_this_stone, .ref q_this_age, .ref q_this_family, .ref q_this_seat])), (q_this_jaw, .inl (ct 0, 16, .inl u.1)), (q_this_brow, .inl (ct 0, 16, .inl u.2.1)), (q_this_stone, .inl (ct 0, 8, .inl u.2.2)), (q_this_age, .inl (ct 0, 8, .inl f_this_age)), (q_this_family, .inl (ct 0, 8, .inl f_this_family)), (q_this_seat, .inl (ct 0, 8, .inl f_this_seat))]) := by
  refine cV_of (cc := cX8_carve) (maxL := 4) (by decide) rfl (Nat.le_of_ble_eq_true rfl) ?_
  intro p e s m args below meth c Q A hx hb hml hts hown hK hP hD hA hAe hsz hname hE ls hl
  have hS : va_S A s.heap s.heap [] := va_S.rf
  have hP : va_P D vwCl [(q_this, .inr (8, [.int x_this_gargoyles, .int x_this_people, .int x_this_year, .ref q_this_jaw, .ref q_this_brow, .ref q_this_stone, .ref q_this_age, .ref q_this_family, .ref q_this_seat])), (q_this_jaw, .inl (ct 0, 16, .inl f_this_jaw)), (q_this_brow, .inl (ct 0, 16, .inl f_this_brow)), (q_this_stone, .inl (ct 0, 8, .inl f_this_stone)), (q_this_age, .inl (ct 0, 8, .inl f_this_age)), (q_this_family, .inl (ct 0, 8, .inl f_this_family)), (q_this_seat, .inl (ct 0, 8, .inl f_this_seat))] s.heap := hP
  have hD : va_D A [(q_this, .inr (8, [.int x_this_gargoyles, .int x_this_people, .int x_this_year, .ref q_this_jaw, .ref q_this_brow, .ref q_this_stone, .ref q_this_age, .ref q_this_family, .ref q_this_seat])), (q_this_jaw, .inl (ct 0, 16, .inl f_this_jaw)), (q_this_brow, .inl (ct 0, 16, .inl f_this_brow)), (q_this_stone, .inl (ct 0, 8, .inl f_this_stone)), (q_this_age, .inl (ct 0, 8, .inl f_this_age)), (q_this_family, .inl (ct 0, 8, .inl f_this_family)), (q_this_seat, .inl (ct 0, 8, .inl f_this_seat))] := hD
  have hl : lv_has ls 4 [(0, .ref q_this), (1, .int p1), (2, .int p2), (3, .int p3)] := hl
  obtain ⟨R, hRe⟩ : ∃ R : ((Nat → Int32) × (Nat → Int32) × (Nat → Int32)), R = m_State_carve f_this_jaw f_this_brow f_this_stone p1 p2 p3 := ⟨_, rfl⟩
  have hR : uy_Q R (fun z : ((Nat → Int32) × (Nat → Int32) × (Nat → Int32)) => z) (m_State_carve f_this_jaw f_this_brow f_this_stone p1 p2 p3) := hRe
  have hin_State : ∀ w ∈ u_ws RX8 TX8 9, w ∈ wsX8_carve := fun w h => List.mem_cons_of_mem _ (List.mem_append_right _ (h))
  delta m_State_carve at hR
  refine lv_aload_n hx hb dX8_carve_0 rfl (lv_at hl 0 rfl) ?_
  refine lv_iload_n hx hb dX8_carve_1 rfl (lv_at hl 1 rfl) ?_
  refine lv_iload_n hx hb dX8_carve_2 rfl (lv_at hl 2 rfl) ?_
  refine lv_iload_n hx hb dX8_carve_3 rfl (lv_at hl 3 rfl) ?_
  refine kVV (rest := []) (ci := 8) (wr := []) ⟨hx, hb, hml, hown, hts⟩ (c_State_setFace l D ct q_this q_this_jaw q_this_brow q_this_stone q_this_age q_this_family q_this_seat s.heap.size x_this_gargoyles x_this_people x_this_year f_this_jaw f_this_brow f_this_stone f_this_age f_this_family f_this_seat p1 p2 p3 i_x_this_gargoyles i_x_this_people i_x_this_year a_f_this_seat (iv_w i_p1 (by decide) (by decide))) (cwV 3 hts gX8_carve_X8_setFace rfl rfl rfl (by first | exact hdX8_setFace_3 | decide +kernel) ⟨(Nat.le_of_ble_eq_true rfl), (Nat.le_of_ble_eq_true rfl)⟩) hK hP hD hS hA [0, 1, 2, 3, 4, 5, 6] [] rfl rfl rfl rfl (by decide) rfl rfl rfl rfl hl.1 rfl (Nat.le_of_ble_eq_true rfl) dX8_carve_4 ⟨(Nat.le_of_ble_eq_true rfl), (Nat.le_of_ble_eq_true rfl)⟩ (fun u2 H locs hr1 hP hD hS => ?_)
  obtain ⟨f3, f4⟩ := u2
  have hP := hP.sub (ws' := [(q_this, .inr (8, [.int x_this_gargoyles, .int x_this_people, .int x_this_year, .ref q_this_jaw, .ref q_this_brow, .ref q_this_stone, .ref q_this_age, .ref q_this_family, .ref q_this_seat])), (q_this_jaw, .inl (ct 0, 16, .inl f3)), (q_this_brow, .inl (ct 0, 16, .inl f4)), (q_this_stone, .inl (ct 0, 8, .inl f_this_stone)), (q_this_age, .inl (ct 0, 8, .inl f_this_age)), (q_this_family, .inl (ct 0, 8, .inl f_this_family)), (q_this_seat, .inl (ct 0, 8, .inl f_this_seat))]) [0, 1, 2, 3, 4, 5, 6] rfl
  have hD := hD.sub (ws' := [(q_this, .inr (8, [.int x_this_gargoyles, .int x_this_people, .int x_this_year, .ref q_this_jaw, .ref q_this_brow, .ref q_this_stone, .ref q_this_age, .ref q_this_family, .ref q_this_seat])), (q_this_jaw, .inl (ct 0, 16, .inl f3)), (q_this_brow, .inl (ct 0, 16, .inl f4)), (q_this_stone, .inl (ct 0, 8, .inl f_this_stone)), (q_this_age, .inl (ct 0, 8, .inl f_this_age)), (q_this_family, .inl (ct 0, 8, .inl f_this_family)), (q_this_seat, .inl (ct 0, 8, .inl f_this_seat))]) [0, 1, 2, 3, 4, 5, 6] (by decide) rfl
  have m5 : (f3, f4) = m_State_setFace f_this_jaw f_this_brow p1 p2 p3 := hr1
  replace hR := uy_Cs2 m5 hR
  refine lv_aload_n hx hb dX8_carve_7 rfl (lv_at hl 0 rfl) ?_
  refine va_get (D := D) (ci := 8) (v := .ref q_this_stone) (C := RX8) (T := TX8) (N := 9) hx hb hts hin_State hown hK hP 0 rfl rfl 5 (by decide) (hts (.fieldLink RX8 18 "GutterSeats$State" "stone" "[I") (List.mem_cons_of_mem _ (List.mem_append_left _ (List.mem_of_getElem? (i := 0) (by first | rfl | decide +kernel))))) (fun _ h9 => h9) rfl dX8_carve_8 ?_
  refine lv_iload_n hx hb dX8_carve_11 rfl (lv_at hl 1 rfl) ?_
  refine lv_bipush (v := 99) hx hb dX8_carve_12 (by decide) ?_
  have n6 : vp_in p1 8 := iv_in i_p1 (by decide) (by decide)
  refine va_iast hx hb hK hP hD hS 3 0 rfl rfl n6 dX8_carve_14 (fun H locs hP hD hS => ?_)
  obtain ⟨f7, ef7⟩ : ∃ z : Nat → Int32, z = upd f_this_stone p1.toNatClampNeg (99 : Int32) := ⟨_, rfl⟩
  replace hR := uy_Ls ef7 hR
  rw [← ef7] at hP hD
  have hP : va_P D vwCl [(q_this, .inr (8, [.int x_this_gargoyles, .int x_this_people, .int x_this_year, .ref q_this_jaw, .ref q_this_brow, .ref q_this_stone, .ref q_this_age, .ref q_this_family, .ref q_this_seat])), (q_this_jaw, .inl (ct 0, 16, .inl f3)), (q_this_brow, .inl (ct 0, 16, .inl f4)), (q_this_stone, .inl (ct 0, 8, .inl f7)), (q_this_age, .inl (ct 0, 8, .inl f_this_age)), (q_this_family, .inl (ct 0, 8, .inl f_this_family)), (q_this_seat, .inl (ct 0, 8, .inl f_this_seat))] H := hP
  have hD : va_D A [(q_this, .inr (8, [.int x_this_gargoyles, .int x_this_people, .int x_this_year, .ref q_this_jaw, .ref q_this_brow, .ref q_this_stone, .ref q_this_age, .ref q_this_family, .ref q_this_seat])), (q_this_jaw, .inl (ct 0, 16, .inl f3)), (q_this_brow, .inl (ct 0, 16, .inl f4)), (q_this_stone, .inl (ct 0, 8, .inl f7)), (q_this_age, .inl (ct 0, 8, .inl f_this_age)), (q_this_family, .inl (ct 0, 8, .inl f_this_family)), (q_this_seat, .inl (ct 0, 8, .inl f_this_seat))] := hD
  exact hE (f3, f4, f7) _ _ _ _ ((uy_Q0 hR).symm.trans hRe) hP hD hS dX8_carve_15
abbrev rm_State_carveAsItIs : Room := { frames := 0, cells := 0, slots := 0, locals := 0 }
set_option maxHeartbeats 4000000 in
set_option maxRecDepth 100000 in
theorem c_State_carveAsItIs (l : Launch) (D : va_G) (ct : Nat → ClassId) (q_this q_this_jaw q_this_brow q_this_stone q_this_age q_this_family q_this_seat : Nat) (sz : Nat) (x_this_gargoyles x_this_people x_this_year : Int32) (f_this_jaw f_this_brow f_this_stone f_this_age f_this_family f_this_seat : Nat → Int32) (p1 : Int32) (i_x_this_gargoyles : iv x_this_gargoyles 0 8) (i_x_this_people : iv x_this_people 0 8) (i_x_this_year : iv x_this_year 0 5000) (a_f_this_seat : av f_this_seat 8 (-1) 7) (i_p1 : iv p1 0 7) : cV l yX8_carveAsItIs wsX8_carveAsItIs rm_State_carveAsItIs D ct [(q_this, .inr (8, [.int x_this_gargoyles, .int x_this_people, .int x_this_year, .ref q_this_jaw, .ref q_this_brow, .ref q_this_stone, .ref q_this_age, .ref q_this_family, .ref q_this_seat])), (q_this_jaw, .inl (ct 0, 16, .inl f_this_jaw)), (q_this_brow, .inl (ct 0, 16, .inl f_this_brow)), (q_this_stone, .inl (ct 0, 8, .inl f_this_stone)), (q_this_age, .inl (ct 0, 8, .inl f_this_age)), (q_this_family, .inl (ct 0, 8, .inl f_this_family)), (q_this_seat, .inl (ct 0, 8, .inl f_this_seat))] sz [.ref q_this, .int p1] (fun u : (Nat → Int32) => u = m_State_carveAsItIs f_this_stone p1) (fun u : (Nat → Int32) => [(q_this, .inr (8, [.int x_this_gargoyles, .int x_this_people, .int x_this_year, .ref q_this_jaw, .ref q_this_brow, .ref q_this_stone, .ref q_this_age, .ref q_this_family, .ref q_this_seat])), (q_this_jaw, .inl (ct 0, 16, .inl f_this_jaw)), (q_this_brow, .inl (ct 0, 16, .inl f_this_brow)), (q_this_stone, .inl (ct 0, 8, .inl u)), (q_this_age, .inl (ct 0, 8, .inl f_this_age)), (q_this_family, .inl (ct 0, 8, .inl f_this_family)), (q_this_seat, .inl (ct 0, 8, .inl f_this_seat))]) := by
  refine cV_of (cc := cX8_carveAsItIs) (maxL := 2) (by decide) rfl (Nat.le_of_ble_eq_true rfl) ?_
  intro p e s m args below meth c Q A hx hb hml hts hown hK hP hD hA hAe hsz hname hE ls hl
  have hS : va_S A s.heap s.heap [] := va_S.rf
  have hP : va_P D vwCl [(q_this, .inr (8, [.int x_this_gargoyles, .int x_this_people, .int x_this_year, .ref q_this_jaw, .ref q_this_brow, .ref q_this_stone, .ref q_this_age, .ref q_this_family, .ref q_this_seat])), (q_this_jaw, .inl (ct 0, 16, .inl f_this_jaw)), (q_this_brow, .inl (ct 0, 16, .inl f_this_brow)), (q_this_stone, .inl (ct 0, 8, .inl f_this_stone)), (q_this_age, .inl (ct 0, 8, .inl f_this_age)), (q_this_family, .inl (ct 0, 8, .inl f_this_family)), (q_this_seat, .inl (ct 0, 8, .inl f_this_seat))] s.heap := hP
  have hD : va_D A [(q_this, .inr (8, [.int x_this_gargoyles, .int x_this_people, .int x_this_year, .ref q_this_jaw, .ref q_this_brow, .ref q_this_stone, .ref q_this_age, .ref q_this_family, .ref q_this_seat])), (q_this_jaw, .inl (ct 0, 16, .inl f_this_jaw)), (q_this_brow, .inl (ct 0, 16, .inl f_this_brow)), (q_this_stone, .inl (ct 0, 8, .inl f_this_stone)), (q_this_age, .inl (ct 0, 8, .inl f_this_age)), (q_this_family, .inl (ct 0, 8, .inl f_this_family)), (q_this_seat, .inl (ct 0, 8, .inl f_this_seat))] := hD
  have hl : lv_has ls 2 [(0, .ref q_this), (1, .int p1)] := hl
  obtain ⟨R, hRe⟩ : ∃ R : ((Nat → Int32)), R = m_State_carveAsItIs f_this_stone p1 := ⟨_, rfl⟩
  have hR : uy_Q R (fun z : ((Nat → Int32)) => z) (m_State_carveAsItIs f_this_stone p1) := hRe
  have hin_State : ∀ w ∈ u_ws RX8 TX8 9, w ∈ wsX8_carveAsItIs := fun w h => List.mem_cons_of_mem _ (List.mem_append_right _ (h))
  delta m_State_carveAsItIs at hR
  refine lv_aload_n hx hb dX8_carveAsItIs_0 rfl (lv_at hl 0 rfl) ?_
  refine va_get (D := D) (ci := 8) (v := .ref q_this_stone) (C := RX8) (T := TX8) (N := 9) hx hb hts hin_State hown hK hP 0 rfl rfl 5 (by decide) (hts (.fieldLink RX8 18 "GutterSeats$State" "stone" "[I") (List.mem_cons_of_mem _ (List.mem_append_left _ (List.mem_of_getElem? (i := 0) (by first | rfl | decide +kernel))))) (fun _ h9 => h9) rfl dX8_carveAsItIs_1 ?_
  refine lv_iload_n hx hb dX8_carveAsItIs_4 rfl (lv_at hl 1 rfl) ?_
  refine lv_bipush (v := 99) hx hb dX8_carveAsItIs_5 (by decide) ?_
  have n1 : vp_in p1 8 := iv_in i_p1 (by decide) (by decide)
  refine va_iast hx hb hK hP hD hS 3 0 rfl rfl n1 dX8_carveAsItIs_7 (fun H locs hP hD hS => ?_)
  obtain ⟨f2, ef2⟩ : ∃ z : Nat → Int32, z = upd f_this_stone p1.toNatClampNeg (99 : Int32) := ⟨_, rfl⟩
  replace hR := uy_Ls ef2 hR
  rw [← ef2] at hP hD
  have hP : va_P D vwCl [(q_this, .inr (8, [.int x_this_gargoyles, .int x_this_people, .int x_this_year, .ref q_this_jaw, .ref q_this_brow, .ref q_this_stone, .ref q_this_age, .ref q_this_family, .ref q_this_seat])), (q_this_jaw, .inl (ct 0, 16, .inl f_this_jaw)), (q_this_brow, .inl (ct 0, 16, .inl f_this_brow)), (q_this_stone, .inl (ct 0, 8, .inl f2)), (q_this_age, .inl (ct 0, 8, .inl f_this_age)), (q_this_family, .inl (ct 0, 8, .inl f_this_family)), (q_this_seat, .inl (ct 0, 8, .inl f_this_seat))] H := hP
  have hD : va_D A [(q_this, .inr (8, [.int x_this_gargoyles, .int x_this_people, .int x_this_year, .ref q_this_jaw, .ref q_this_brow, .ref q_this_stone, .ref q_this_age, .ref q_this_family, .ref q_this_seat])), (q_this_jaw, .inl (ct 0, 16, .inl f_this_jaw)), (q_this_brow, .inl (ct 0, 16, .inl f_this_brow)), (q_this_stone, .inl (ct 0, 8, .inl f2)), (q_this_age, .inl (ct 0, 8, .inl f_this_age)), (q_this_family, .inl (ct 0, 8, .inl f_this_family)), (q_this_seat, .inl (ct 0, 8, .inl f_this_seat))] := hD
  exact hE f2 _ _ _ _ ((uy_Q0 hR).symm.trans hRe) hP hD hS dX8_carveAsItIs_8
abbrev rm_State_moveUp : Room := { frames := 1, cells := 0, slots := 0, locals := 22 }
set_option maxHeartbeats 4000000 in
set_option maxRecDepth 100000 in
theorem c_State_moveUp (l : Launch) (D : va_G) (ct : Nat → ClassId) (q_this q_this_jaw q_this_brow q_this_stone q_this_age q_this_family q_this_seat : Nat) (sz : Nat) (x_this_gargoyles x_this_people x_this_year : Int32) (f_this_jaw f_this_brow f_this_stone f_this_age f_this_family f_this_seat : Nat → Int32) (p1 p2 : Int32) (i_x_this_gargoyles : iv x_this_gargoyles 0 8) (i_x_this_people : iv x_this_people 0 8) (i_x_this_year : iv x_this_year 0 5000) (a_f_this_seat : av f_this_seat 8 (-1) 7) (i_p1 : iv p1 0 7) (i_p2 : iv p2 (-1) 7) : cV l yX8_moveUp wsX8_moveUp rm_State_moveUp D ct [(q_this, .inr (8, [.int x_this_gargoyles, .int x_this_people, .int x_this_year, .ref q_this_jaw, .ref q_this_brow, .ref q_this_stone, .ref q_this_age, .ref q_this_family, .ref q_this_seat])), (q_this_jaw, .inl (ct 0, 16, .inl f_this_jaw)), (q_this_brow, .inl (ct 0, 16, .inl f_this_brow)), (q_this_stone, .inl (ct 0, 8, .inl f_this_stone)), (q_this_age, .inl (ct 0, 8, .inl f_this_age)), (q_this_family, .inl (ct 0, 8, .inl f_this_family)), (q_this_seat, .inl (ct 0, 8, .inl f_this_seat))] sz [.ref q_this, .int p1, .int p2] (fun u : (Nat → Int32) => av u 8 (-1) 7 ∧ u = m_State_moveUp x_this_people f_this_seat p1 p2) (fun u : (Nat → Int32) => [(q_this, .inr (8, [.int x_this_gargoyles, .int x_this_people, .int x_this_year, .ref q_this_jaw, .ref q_this_brow, .ref q_this_stone, .ref q_this_age, .ref q_this_family, .ref q_this_seat])), (q_this_jaw, .inl (ct 0, 16, .inl f_this_jaw)), (q_this_brow, .inl (ct 0, 16, .inl f_this_brow)), (q_this_stone, .inl (ct 0, 8, .inl f_this_stone)), (q_this_age, .inl (ct 0, 8, .inl f_this_age)), (q_this_family, .inl (ct 0, 8, .inl f_this_family)), (q_this_seat, .inl (ct 0, 8, .inl u))]) := by
  refine cV_of (cc := cX8_moveUp) (maxL := 4) (by decide) rfl (Nat.le_of_ble_eq_true rfl) ?_
  intro p e s m args below meth c Q A hx hb hml hts hown hK hP hD hA hAe hsz hname hE ls hl
  have hS : va_S A s.heap s.heap [] := va_S.rf
  have hP : va_P D vwCl [(q_this, .inr (8, [.int x_this_gargoyles, .int x_this_people, .int x_this_year, .ref q_this_jaw, .ref q_this_brow, .ref q_this_stone, .ref q_this_age, .ref q_this_family, .ref q_this_seat])), (q_this_jaw, .inl (ct 0, 16, .inl f_this_jaw)), (q_this_brow, .inl (ct 0, 16, .inl f_this_brow)), (q_this_stone, .inl (ct 0, 8, .inl f_this_stone)), (q_this_age, .inl (ct 0, 8, .inl f_this_age)), (q_this_family, .inl (ct 0, 8, .inl f_this_family)), (q_this_seat, .inl (ct 0, 8, .inl f_this_seat))] s.heap := hP
  have hD : va_D A [(q_this, .inr (8, [.int x_this_gargoyles, .int x_this_people, .int x_this_year, .ref q_this_jaw, .ref q_this_brow, .ref q_this_stone, .ref q_this_age, .ref q_this_family, .ref q_this_seat])), (q_this_jaw, .inl (ct 0, 16, .inl f_this_jaw)), (q_this_brow, .inl (ct 0, 16, .inl f_this_brow)), (q_this_stone, .inl (ct 0, 8, .inl f_this_stone)), (q_this_age, .inl (ct 0, 8, .inl f_this_age)), (q_this_family, .inl (ct 0, 8, .inl f_this_family)), (q_this_seat, .inl (ct 0, 8, .inl f_this_seat))] := hD
  have hl : lv_has ls 4 [(0, .ref q_this), (1, .int p1), (2, .int p2)] := hl
  obtain ⟨R, hRe⟩ : ∃ R : ((Nat → Int32)), R = m_State_moveUp x_this_people f_this_seat p1 p2 := ⟨_, rfl⟩
  have hR : uy_Q R (fun z : ((Nat → Int32)) => z) (m_State_moveUp x_this_people f_this_seat p1 p2) := hRe
  have hin_State : ∀ w ∈ u_ws RX8 TX8 9, w ∈ wsX8_moveUp := fun w h => List.mem_cons_of_mem _ (List.mem_append_right _ (h))
  have K18 : ∀ (f_this_seatc18 : Nat → Int32) (H : Heap) (locs : List Loc) (ls : Array Slot), av f_this_seatc18 8 (-1) 7 → uy_Q R (fun z : ((Nat → Int32)) => z) (m_State_moveUp_k18 x_this_people f_this_seat p1 p2 f_this_seatc18) → va_P D vwCl [(q_this, .inr (8, [.int x_this_gargoyles, .int x_this_people, .int x_this_year, .ref q_this_jaw, .ref q_this_brow, .ref q_this_stone, .ref q_this_age, .ref q_this_family, .ref q_this_seat])), (q_this_jaw, .inl (ct 0, 16, .inl f_this_jaw)), (q_this_brow, .inl (ct 0, 16, .inl f_this_brow)), (q_this_stone, .inl (ct 0, 8, .inl f_this_stone)), (q_this_age, .inl (ct 0, 8, .inl f_this_age)), (q_this_family, .inl (ct 0, 8, .inl f_this_family)), (q_this_seat, .inl (ct 0, 8, .inl f_this_seatc18))] H → va_D A [(q_this, .inr (8, [.int x_this_gargoyles, .int x_this_people, .int x_this_year, .ref q_this_jaw, .ref q_this_brow, .ref q_this_stone, .ref q_this_age, .ref q_this_family, .ref q_this_seat])), (q_this_jaw, .inl (ct 0, 16, .inl f_this_jaw)), (q_this_brow, .inl (ct 0, 16, .inl f_this_brow)), (q_this_stone, .inl (ct 0, 8, .inl f_this_stone)), (q_this_age, .inl (ct 0, 8, .inl f_this_age)), (q_this_family, .inl (ct 0, 8, .inl f_this_family)), (q_this_seat, .inl (ct 0, 8, .inl f_this_seatc18))] → va_S A s.heap H locs → lv_has ls 4 [(0, .ref q_this), (1, .int p1), (2, .int p2)] → W p l e rm_State_moveUp s m args below meth c H locs 0 0 Q (F0 m 18 ls []) := by
    intro f_this_seatc18 H locs ls a_f_this_seatc18 hR hP hD hS hl
    delta m_State_moveUp_k18 at hR
    refine lv_aload_n hx hb dX8_moveUp_18 rfl (lv_at hl 0 rfl) ?_
    refine va_get (D := D) (ci := 8) (v := .ref q_this_seat) (C := RX8) (T := TX8) (N := 9) hx hb hts hin_State hown hK hP 0 rfl rfl 8 (by decide) (hts (.fieldLink RX8 27 "GutterSeats$State" "seat" "[I") (List.mem_cons_of_mem _ (List.mem_append_left _ (List.mem_of_getElem? (i := 0) (by first | rfl | decide +kernel))))) (fun _ h9 => h9) rfl dX8_moveUp_19 ?_
    refine lv_iload_n hx hb dX8_moveUp_22 rfl (lv_at hl 1 rfl) ?_
    refine lv_iload_n hx hb dX8_moveUp_23 rfl (lv_at hl 2 rfl) ?_
    have n1 : vp_in p1 8 := iv_in i_p1 (by decide) (by decide)
    refine va_iast hx hb hK hP hD hS 6 0 rfl rfl n1 dX8_moveUp_24 (fun H locs hP hD hS => ?_)
    obtain ⟨f2, ef2⟩ : ∃ z : Nat → Int32, z = upd f_this_seatc18 p1.toNatClampNeg p2 := ⟨_, rfl⟩
    replace hR := uy_Ls ef2 hR
    rw [← ef2] at hP hD
    have hP : va_P D vwCl [(q_this, .inr (8, [.int x_this_gargoyles, .int x_this_people, .int x_this_year, .ref q_this_jaw, .ref q_this_brow, .ref q_this_stone, .ref q_this_age, .ref q_this_family, .ref q_this_seat])), (q_this_jaw, .inl (ct 0, 16, .inl f_this_jaw)), (q_this_brow, .inl (ct 0, 16, .inl f_this_brow)), (q_this_stone, .inl (ct 0, 8, .inl f_this_stone)), (q_this_age, .inl (ct 0, 8, .inl f_this_age)), (q_this_family, .inl (ct 0, 8, .inl f_this_family)), (q_this_seat, .inl (ct 0, 8, .inl f2))] H := hP
    have hD : va_D A [(q_this, .inr (8, [.int x_this_gargoyles, .int x_this_people, .int x_this_year, .ref q_this_jaw, .ref q_this_brow, .ref q_this_stone, .ref q_this_age, .ref q_this_family, .ref q_this_seat])), (q_this_jaw, .inl (ct 0, 16, .inl f_this_jaw)), (q_this_brow, .inl (ct 0, 16, .inl f_this_brow)), (q_this_stone, .inl (ct 0, 8, .inl f_this_stone)), (q_this_age, .inl (ct 0, 8, .inl f_this_age)), (q_this_family, .inl (ct 0, 8, .inl f_this_family)), (q_this_seat, .inl (ct 0, 8, .inl f2))] := hD
    have a_f2 : av f2 8 (-1) 7 := by rw [ef2]; exact av_upd a_f_this_seatc18 _ i_p2
    exact hE f2 _ _ _ _ ⟨a_f2, ((uy_Q0 hR).symm.trans hRe)⟩ hP hD hS dX8_moveUp_25
  delta m_State_moveUp at hR
  refine lv_aload_n hx hb dX8_moveUp_0 rfl (lv_at hl 0 rfl) ?_
  refine lv_iload_n hx hb dX8_moveUp_1 rfl (lv_at hl 2 rfl) ?_
  refine kPV (rest := []) (ci := 8) ⟨hx, hb, hml, hown, hts⟩ (c_State_sitterAt l D ct q_this q_this_jaw q_this_brow q_this_stone q_this_age q_this_family q_this_seat x_this_gargoyles x_this_people x_this_year f_this_jaw f_this_brow f_this_stone f_this_age f_this_family f_this_seat p2 i_x_this_gargoyles i_x_this_people i_x_this_year a_f_this_seat) (cwV 1 hts gX8_moveUp_X8_sitterAt rfl rfl rfl (by first | exact hdX8_sitterAt_1 | decide +kernel) ⟨(Nat.le_of_ble_eq_true rfl), (Nat.le_of_ble_eq_true rfl)⟩) hK hP [0, 1, 2, 3, 4, 5, 6] rfl rfl rfl rfl rfl hl.1 rfl (Nat.le_of_ble_eq_true rfl) dX8_moveUp_2 ⟨(Nat.le_of_ble_eq_true rfl), (Nat.le_of_ble_eq_true rfl)⟩ (fun r3 hr3 => ?_)
  have i_r3 : iv r3 (-1) 7 := hr3.1
  have m4 : r3 = m_State_sitterAt x_this_people f_this_seat p2 := hr3.2
  replace hR := uy_Cs1 m4 hR
  refine lv_istore_n (lv' := [(3, .int r3), (0, .ref q_this), (1, .int p1), (2, .int p2)]) hx hb dX8_moveUp_5 rfl hl (by decide) rfl (fun ls hl => ?_)
  refine lv_iload_n hx hb dX8_moveUp_6 rfl (lv_at hl 0 rfl) ?_
  refine lv_iconst (v := -1) hx hb dX8_moveUp_7 (by decide) ?_
  refine lv_icmp_eq (tgt := 18) hx hb dX8_moveUp_8 (by decide) (fun c5 => ?_) (fun c5 => ?_)
  ·
    replace hR := uy_Qp c5 hR
    have j6 : iv r3 (-1) (-1) := by rw [c5]; exact (iv_lit (-1 : Int32) (by decide) : iv (-1 : Int32) (-1) (-1))
    exact K18 f_this_seat _ _ ls a_f_this_seat hR hP hD hS (lv_sub hl [1, 2, 3] rfl)
  ·
    replace hR := uy_Qn c5 hR
    have j7 : iv r3 0 7 := iv_neL c5 i_r3 rfl (by decide)
    refine lv_aload_n hx hb dX8_moveUp_11 rfl (lv_at hl 1 rfl) ?_
    refine va_get (D := D) (ci := 8) (v := .ref q_this_seat) (C := RX8) (T := TX8) (N := 9) hx hb hts hin_State hown hK hP 0 rfl rfl 8 (by decide) (hts (.fieldLink RX8 27 "GutterSeats$State" "seat" "[I") (List.mem_cons_of_mem _ (List.mem_append_left _ (List.mem_of_getElem? (i := 0) (by first | rfl | decide +kernel))))) (fun _ h9 => h9) rfl dX8_moveUp_12 ?_
    refine lv_iload_n hx hb dX8_moveUp_15 rfl (lv_at hl 0 rfl) ?_
    refine lv_iconst (v := -1) hx hb dX8_moveUp_16 (by decide) ?_
    have n8 : vp_in r3 8 := iv_in j7 (by decide) (by decide)
    refine va_iast hx hb hK hP hD hS 6 0 rfl rfl n8 dX8_moveUp_17 (fun H locs hP hD hS => ?_)
    obtain ⟨f9, ef9⟩ : ∃ z : Nat → Int32, z = upd f_this_seat r3.toNatClampNeg (-1 : Int32) := ⟨_, rfl⟩
    replace hR := uy_Ls ef9 hR
    rw [← ef9] at hP hD
    have hP : va_P D vwCl [(q_this, .inr (8, [.int x_this_gargoyles, .int x_this_people, .int x_this_year, .ref q_this_jaw, .ref q_this_brow, .ref q_this_stone, .ref q_this_age, .ref q_this_family, .ref q_this_seat])), (q_this_jaw, .inl (ct 0, 16, .inl f_this_jaw)), (q_this_brow, .inl (ct 0, 16, .inl f_this_brow)), (q_this_stone, .inl (ct 0, 8, .inl f_this_stone)), (q_this_age, .inl (ct 0, 8, .inl f_this_age)), (q_this_family, .inl (ct 0, 8, .inl f_this_family)), (q_this_seat, .inl (ct 0, 8, .inl f9))] H := hP
    have hD : va_D A [(q_this, .inr (8, [.int x_this_gargoyles, .int x_this_people, .int x_this_year, .ref q_this_jaw, .ref q_this_brow, .ref q_this_stone, .ref q_this_age, .ref q_this_family, .ref q_this_seat])), (q_this_jaw, .inl (ct 0, 16, .inl f_this_jaw)), (q_this_brow, .inl (ct 0, 16, .inl f_this_brow)), (q_this_stone, .inl (ct 0, 8, .inl f_this_stone)), (q_this_age, .inl (ct 0, 8, .inl f_this_age)), (q_this_family, .inl (ct 0, 8, .inl f_this_family)), (q_this_seat, .inl (ct 0, 8, .inl f9))] := hD
    have a_f9 : av f9 8 (-1) 7 := by rw [ef9]; exact av_upd a_f_this_seat _ (iv_lit (-1 : Int32) (by decide) : iv (-1 : Int32) (-1) 7)
    exact K18 f9 _ _ ls a_f9 hR hP hD hS (lv_sub hl [1, 2, 3] rfl)
abbrev rm_State_nearer : Room := { frames := 1, cells := 0, slots := 0, locals := 21 }
set_option maxHeartbeats 4000000 in
set_option maxRecDepth 100000 in
theorem c_State_nearer (l : Launch) (D : va_G) (ct : Nat → ClassId) (p1 p2 : Int32) : cP l yX8_nearer wsX8_nearer rm_State_nearer D ct [] [.int p1, .int p2] (fun r : Int32 => r = m_State_nearer p1 p2) := by
  refine cP_of (cc := cX8_nearer) (maxL := 2) (by decide) rfl (Nat.le_of_ble_eq_true rfl) ?_
  intro p e s m args below meth c Q hx hb hml hts hown hK hP hE ls hl
  have hl : lv_has ls 2 [(0, .int p1), (1, .int p2)] := hl
  obtain ⟨R, hRe⟩ : ∃ R : (Int32), R = m_State_nearer p1 p2 := ⟨_, rfl⟩
  have hR : uy_Q R (fun z : (Int32) => z) (m_State_nearer p1 p2) := hRe
  delta m_State_nearer at hR
  refine lv_iload_n hx hb dX8_nearer_0 rfl (lv_at hl 0 rfl) ?_
  refine lv_iload_n hx hb dX8_nearer_1 rfl (lv_at hl 1 rfl) ?_
  refine lv_iload_n hx hb dX8_nearer_2 rfl (lv_at hl 0 rfl) ?_
  refine kPS (rest := [.int p1]) ⟨hx, hb, hml, hown, hts⟩ (c_J6_compare l D ct p2 p1) (va_cwS 2 hts gX8_nearer_J6_compare_7cf53 rfl rfl rfl (by first | exact hdJ6_compare_7cf53_2.2 | decide +kernel) ⟨(Nat.le_of_ble_eq_true rfl), (Nat.le_of_ble_eq_true rfl)⟩) hK hP [] rfl rfl hl.1 rfl (Nat.le_of_ble_eq_true rfl) dX8_nearer_3 ⟨(Nat.le_of_ble_eq_true rfl), (Nat.le_of_ble_eq_true rfl)⟩ (fun r1 hr1 => ?_)
  have i_r1 : iv r1 (-1) 1 := hr1.1
  have m2 : r1 = m_J6_compare p2 p1 := hr1.2
  replace hR := uy_Cs1 m2 hR
  refine lv_iadd hx hb dX8_nearer_6 ?_
  refine lv_topi (fun x3 ex3 => ?_)
  replace hR := uy_Ls ex3 hR
  exact hE _ _ _ ((uy_Q0 hR).symm.trans hRe) dX8_nearer_7
abbrev rm_State_growLike : Room := { frames := 2, cells := 0, slots := 0, locals := 42 }
set_option maxHeartbeats 4000000 in
set_option maxRecDepth 100000 in
theorem c_State_growLike (l : Launch) (D : va_G) (ct : Nat → ClassId) (q_this q_this_jaw q_this_brow q_this_stone q_this_age q_this_family q_this_seat : Nat) (sz : Nat) (x_this_gargoyles x_this_people x_this_year : Int32) (f_this_jaw f_this_brow f_this_stone f_this_age f_this_family f_this_seat : Nat → Int32) (p1 p2 : Int32) (i_x_this_gargoyles : iv x_this_gargoyles 0 8) (i_x_this_people : iv x_this_people 0 8) (i_x_this_year : iv x_this_year 0 5000) (a_f_this_seat : av f_this_seat 8 (-1) 7) (i_p1 : iv p1 0 7) (i_p2 : iv p2 0 7) : cV l yX8_growLike wsX8_growLike rm_State_growLike D ct [(q_this, .inr (8, [.int x_this_gargoyles, .int x_this_people, .int x_this_year, .ref q_this_jaw, .ref q_this_brow, .ref q_this_stone, .ref q_this_age, .ref q_this_family, .ref q_this_seat])), (q_this_jaw, .inl (ct 0, 16, .inl f_this_jaw)), (q_this_brow, .inl (ct 0, 16, .inl f_this_brow)), (q_this_stone, .inl (ct 0, 8, .inl f_this_stone)), (q_this_age, .inl (ct 0, 8, .inl f_this_age)), (q_this_family, .inl (ct 0, 8, .inl f_this_family)), (q_this_seat, .inl (ct 0, 8, .inl f_this_seat))] sz [.ref q_this, .int p1, .int p2] (fun u : (Nat → Int32) × (Nat → Int32) => (u.1, u.2) = m_State_growLike f_this_jaw f_this_brow p1 p2) (fun u : (Nat → Int32) × (Nat → Int32) => [(q_this, .inr (8, [.int x_this_gargoyles, .int x_this_people, .int x_this_year, .ref q_this_jaw, .ref q_this_brow, .ref q_this_stone, .ref q_this_age, .ref q_this_family, .ref q_this_seat])), (q_this_jaw, .inl (ct 0, 16, .inl u.1)), (q_this_brow, .inl (ct 0, 16, .inl u.2)), (q_this_stone, .inl (ct 0, 8, .inl f_this_stone)), (q_this_age, .inl (ct 0, 8, .inl f_this_age)), (q_this_family, .inl (ct 0, 8, .inl f_this_family)), (q_this_seat, .inl (ct 0, 8, .inl f_this_seat))]) := by
  refine cV_of (cc := cX8_growLike) (maxL := 4) (by decide) rfl (Nat.le_of_ble_eq_true rfl) ?_
  intro p e s m args below meth c Q A hx hb hml hts hown hK hP hD hA hAe hsz hname hE ls hl
  have hS : va_S A s.heap s.heap [] := va_S.rf
  have hP : va_P D vwCl [(q_this, .inr (8, [.int x_this_gargoyles, .int x_this_people, .int x_this_year, .ref q_this_jaw, .ref q_this_brow, .ref q_this_stone, .ref q_this_age, .ref q_this_family, .ref q_this_seat])), (q_this_jaw, .inl (ct 0, 16, .inl f_this_jaw)), (q_this_brow, .inl (ct 0, 16, .inl f_this_brow)), (q_this_stone, .inl (ct 0, 8, .inl f_this_stone)), (q_this_age, .inl (ct 0, 8, .inl f_this_age)), (q_this_family, .inl (ct 0, 8, .inl f_this_family)), (q_this_seat, .inl (ct 0, 8, .inl f_this_seat))] s.heap := hP
  have hD : va_D A [(q_this, .inr (8, [.int x_this_gargoyles, .int x_this_people, .int x_this_year, .ref q_this_jaw, .ref q_this_brow, .ref q_this_stone, .ref q_this_age, .ref q_this_family, .ref q_this_seat])), (q_this_jaw, .inl (ct 0, 16, .inl f_this_jaw)), (q_this_brow, .inl (ct 0, 16, .inl f_this_brow)), (q_this_stone, .inl (ct 0, 8, .inl f_this_stone)), (q_this_age, .inl (ct 0, 8, .inl f_this_age)), (q_this_family, .inl (ct 0, 8, .inl f_this_family)), (q_this_seat, .inl (ct 0, 8, .inl f_this_seat))] := hD
  have hl : lv_has ls 4 [(0, .ref q_this), (1, .int p1), (2, .int p2)] := hl
  obtain ⟨R, hRe⟩ : ∃ R : ((Nat → Int32) × (Nat → Int32)), R = m_State_growLike f_this_jaw f_this_brow p1 p2 := ⟨_, rfl⟩
  have hR : uy_Q R (fun z : ((Nat → Int32) × (Nat → Int32)) => z) (m_State_growLike f_this_jaw f_this_brow p1 p2) := hRe
  have hin_State : ∀ w ∈ u_ws RX8 TX8 9, w ∈ wsX8_growLike := fun w h => List.mem_cons_of_mem _ (List.mem_append_right _ (h))
  delta m_State_growLike at hR
  refine lv_iload_n hx hb dX8_growLike_0 rfl (lv_at hl 1 rfl) ?_
  refine kPS (rest := []) ⟨hx, hb, hml, hown, hts⟩ (c_State_faceOf l D ct p1 i_p1) (va_cwS 1 hts gX8_growLike_X8_faceOf rfl rfl rfl (by first | exact hdX8_faceOf_1.2 | decide +kernel) ⟨(Nat.le_of_ble_eq_true rfl), (Nat.le_of_ble_eq_true rfl)⟩) hK hP [] rfl rfl hl.1 rfl (Nat.le_of_ble_eq_true rfl) dX8_growLike_1 ⟨(Nat.le_of_ble_eq_true rfl), (Nat.le_of_ble_eq_true rfl)⟩ (fun r1 hr1 => ?_)
  have i_r1 : iv r1 8 15 := hr1.1
  have m2 : r1 = m_State_faceOf p1 := hr1.2
  replace hR := uy_Cs1 m2 hR
  refine lv_istore_n (lv' := [(3, .int r1), (0, .ref q_this), (1, .int p1), (2, .int p2)]) hx hb dX8_growLike_4 rfl hl (by decide) rfl (fun ls hl => ?_)
  refine lv_aload_n hx hb dX8_growLike_5 rfl (lv_at hl 1 rfl) ?_
  refine lv_iload_n hx hb dX8_growLike_6 rfl (lv_at hl 0 rfl) ?_
  refine lv_aload_n hx hb dX8_growLike_7 rfl (lv_at hl 1 rfl) ?_
  refine va_get (D := D) (ci := 8) (v := .ref q_this_jaw) (C := RX8) (T := TX8) (N := 9) hx hb hts hin_State hown hK hP 0 rfl rfl 3 (by decide) (hts (.fieldLink RX8 9 "GutterSeats$State" "jaw" "[I") (List.mem_cons_of_mem _ (List.mem_append_left _ (List.mem_of_getElem? (i := 0) (by first | rfl | decide +kernel))))) (fun _ h9 => h9) rfl dX8_growLike_8 ?_
  refine lv_iload_n hx hb dX8_growLike_11 rfl (lv_at hl 0 rfl) ?_
  have n3 : vp_in r1 16 := iv_in i_r1 (by decide) (by decide)
  refine va_iald hx hb hK hP 1 0 rfl rfl n3 dX8_growLike_12 ?_
  refine lv_topi (fun x4 ex4 => ?_)
  replace hR := uy_Ls ex4 hR
  refine lv_aload_n hx hb dX8_growLike_13 rfl (lv_at hl 1 rfl) ?_
  refine va_get (D := D) (ci := 8) (v := .ref q_this_jaw) (C := RX8) (T := TX8) (N := 9) hx hb hts hin_State hown hK hP 0 rfl rfl 3 (by decide) (hts (.fieldLink RX8 9 "GutterSeats$State" "jaw" "[I") (List.mem_cons_of_mem _ (List.mem_append_left _ (List.mem_of_getElem? (i := 0) (by first | rfl | decide +kernel))))) (fun _ h9 => h9) rfl dX8_growLike_14 ?_
  refine lv_iload_n hx hb dX8_growLike_17 rfl (lv_at hl 3 rfl) ?_
  have n5 : vp_in p2 16 := iv_in i_p2 (by decide) (by decide)
  refine va_iald hx hb hK hP 1 0 rfl rfl n5 dX8_growLike_18 ?_
  refine lv_topi (fun x6 ex6 => ?_)
  replace hR := uy_Ls ex6 hR
  refine kPS (rest := [.int r1, .ref q_this]) ⟨hx, hb, hml, hown, hts⟩ (c_State_nearer l D ct x4 x6) (va_cwS 2 hts gX8_growLike_X8_nearer rfl rfl rfl (by first | exact hdX8_nearer_2.2 | decide +kernel) ⟨(Nat.le_of_ble_eq_true rfl), (Nat.le_of_ble_eq_true rfl)⟩) hK hP [] rfl rfl hl.1 rfl (Nat.le_of_ble_eq_true rfl) dX8_growLike_19 ⟨(Nat.le_of_ble_eq_true rfl), (Nat.le_of_ble_eq_true rfl)⟩ (fun r7 hr7 => ?_)
  have m8 : r7 = m_State_nearer x4 x6 := hr7
  replace hR := uy_Cs1 m8 hR
  refine lv_aload_n hx hb dX8_growLike_22 rfl (lv_at hl 1 rfl) ?_
  refine va_get (D := D) (ci := 8) (v := .ref q_this_brow) (C := RX8) (T := TX8) (N := 9) hx hb hts hin_State hown hK hP 0 rfl rfl 4 (by decide) (hts (.fieldLink RX8 15 "GutterSeats$State" "brow" "[I") (List.mem_cons_of_mem _ (List.mem_append_left _ (List.mem_of_getElem? (i := 1) (by first | rfl | decide +kernel))))) (fun _ h9 => h9) rfl dX8_growLike_23 ?_
  refine lv_iload_n hx hb dX8_growLike_26 rfl (lv_at hl 0 rfl) ?_
  have n9 : vp_in r1 16 := iv_in i_r1 (by decide) (by decide)
  refine va_iald hx hb hK hP 2 0 rfl rfl n9 dX8_growLike_27 ?_
  refine lv_topi (fun x10 ex10 => ?_)
  replace hR := uy_Ls ex10 hR
  refine lv_aload_n hx hb dX8_growLike_28 rfl (lv_at hl 1 rfl) ?_
  refine va_get (D := D) (ci := 8) (v := .ref q_this_brow) (C := RX8) (T := TX8) (N := 9) hx hb hts hin_State hown hK hP 0 rfl rfl 4 (by decide) (hts (.fieldLink RX8 15 "GutterSeats$State" "brow" "[I") (List.mem_cons_of_mem _ (List.mem_append_left _ (List.mem_of_getElem? (i := 1) (by first | rfl | decide +kernel))))) (fun _ h9 => h9) rfl dX8_growLike_29 ?_
  refine lv_iload_n hx hb dX8_growLike_32 rfl (lv_at hl 3 rfl) ?_
  have n11 : vp_in p2 16 := iv_in i_p2 (by decide) (by decide)
  refine va_iald hx hb hK hP 2 0 rfl rfl n11 dX8_growLike_33 ?_
  refine lv_topi (fun x12 ex12 => ?_)
  replace hR := uy_Ls ex12 hR
  refine kPS (rest := [.int r7, .int r1, .ref q_this]) ⟨hx, hb, hml, hown, hts⟩ (c_State_nearer l D ct x10 x12) (va_cwS 2 hts gX8_growLike_X8_nearer rfl rfl rfl (by first | exact hdX8_nearer_2.2 | decide +kernel) ⟨(Nat.le_of_ble_eq_true rfl), (Nat.le_of_ble_eq_true rfl)⟩) hK hP [] rfl rfl hl.1 rfl (Nat.le_of_ble_eq_true rfl) dX8_growLike_34 ⟨(Nat.le_of_ble_eq_true rfl), (Nat.le_of_ble_eq_true rfl)⟩ (fun r13 hr13 => ?_)
  have m14 : r13 = m_State_nearer x10 x12 := hr13
  replace hR := uy_Cs1 m14 hR
  refine kVV (rest := []) (ci := 8) (wr := []) ⟨hx, hb, hml, hown, hts⟩ (c_State_setFace l D ct q_this q_this_jaw q_this_brow q_this_stone q_this_age q_this_family q_this_seat s.heap.size x_this_gargoyles x_this_people x_this_year f_this_jaw f_this_brow f_this_stone f_this_age f_this_family f_this_seat r1 r7 r13 i_x_this_gargoyles i_x_this_people i_x_this_year a_f_this_seat (iv_w i_r1 (by decide) (by decide))) (cwV 3 hts gX8_growLike_X8_setFace rfl rfl rfl (by first | exact hdX8_setFace_3 | decide +kernel) ⟨(Nat.le_of_ble_eq_true rfl), (Nat.le_of_ble_eq_true rfl)⟩) hK hP hD hS hA [0, 1, 2, 3, 4, 5, 6] [] rfl rfl rfl rfl (by decide) rfl rfl rfl rfl hl.1 rfl (Nat.le_of_ble_eq_true rfl) dX8_growLike_37 ⟨(Nat.le_of_ble_eq_true rfl), (Nat.le_of_ble_eq_true rfl)⟩ (fun u16 H locs hr15 hP hD hS => ?_)
  obtain ⟨f17, f18⟩ := u16
  have hP := hP.sub (ws' := [(q_this, .inr (8, [.int x_this_gargoyles, .int x_this_people, .int x_this_year, .ref q_this_jaw, .ref q_this_brow, .ref q_this_stone, .ref q_this_age, .ref q_this_family, .ref q_this_seat])), (q_this_jaw, .inl (ct 0, 16, .inl f17)), (q_this_brow, .inl (ct 0, 16, .inl f18)), (q_this_stone, .inl (ct 0, 8, .inl f_this_stone)), (q_this_age, .inl (ct 0, 8, .inl f_this_age)), (q_this_family, .inl (ct 0, 8, .inl f_this_family)), (q_this_seat, .inl (ct 0, 8, .inl f_this_seat))]) [0, 1, 2, 3, 4, 5, 6] rfl
  have hD := hD.sub (ws' := [(q_this, .inr (8, [.int x_this_gargoyles, .int x_this_people, .int x_this_year, .ref q_this_jaw, .ref q_this_brow, .ref q_this_stone, .ref q_this_age, .ref q_this_family, .ref q_this_seat])), (q_this_jaw, .inl (ct 0, 16, .inl f17)), (q_this_brow, .inl (ct 0, 16, .inl f18)), (q_this_stone, .inl (ct 0, 8, .inl f_this_stone)), (q_this_age, .inl (ct 0, 8, .inl f_this_age)), (q_this_family, .inl (ct 0, 8, .inl f_this_family)), (q_this_seat, .inl (ct 0, 8, .inl f_this_seat))]) [0, 1, 2, 3, 4, 5, 6] (by decide) rfl
  have m19 : (f17, f18) = m_State_setFace f_this_jaw f_this_brow r1 r7 r13 := hr15
  replace hR := uy_Cs2 m19 hR
  exact hE (f17, f18) _ _ _ _ ((uy_Q0 hR).symm.trans hRe) hP hD hS dX8_growLike_40
