abbrev rm_Plan_rainOf : Room := { frames := 0, cells := 0, slots := 0, locals := 0 }
set_option maxHeartbeats 4000000 in
set_option maxRecDepth 100000 in
theorem c_Plan_rainOf (l : Launch) (D : va_G) (ct : Nat → ClassId) (q_this q_this_rain q_this_wears q_this_wears_items q_this_sits q_this_sits_items q_this_start : Nat) (x_this_orphanBits x_this_rains x_this_certain x_this_isCertainTold x_this_wears_length x_this_sits_length : Int32) (f_this_rain f_this_wears_items f_this_sits_items : Nat → Int32) (p1 : Int32) (i_x_this_rains : iv x_this_rains 0 8) (i_x_this_wears_length : iv x_this_wears_length 0 700) (a_f_this_wears_items : av f_this_wears_items 700 (-2147483648) 10006) (i_x_this_sits_length : iv x_this_sits_length 0 700) (a_f_this_sits_items : av f_this_sits_items 700 (-2147483648) 10006) (i_p1 : iv p1 0 5000) : cP l yX3_rainOf wsX3_rainOf rm_Plan_rainOf D ct [(q_this, .inr (3, [.ref q_this_start, .int x_this_orphanBits, .ref q_this_rain, .int x_this_rains, .int x_this_certain, .int x_this_isCertainTold, .ref q_this_wears, .ref q_this_sits])), (q_this_rain, .inl (ct 0, 8, .inl f_this_rain)), (q_this_wears, .inr (5, [.ref q_this_wears_items, .int x_this_wears_length])), (q_this_wears_items, .inl (ct 0, 700, .inl f_this_wears_items)), (q_this_sits, .inr (5, [.ref q_this_sits_items, .int x_this_sits_length])), (q_this_sits_items, .inl (ct 0, 700, .inl f_this_sits_items))] [.ref q_this, .int p1] (fun r : Int32 => r = m_Plan_rainOf x_this_rains f_this_rain p1) := by
  refine cP_of (cc := cX3_rainOf) (maxL := 2) (by decide) rfl (Nat.le_of_ble_eq_true rfl) ?_
  intro p e s m args below meth c Q hx hb hml hts hown hK hP hE ls hl
  have hl : lv_has ls 2 [(0, .ref q_this), (1, .int p1)] := hl
  obtain ⟨R, hRe⟩ : ∃ R : (Int32), R = m_Plan_rainOf x_this_rains f_this_rain p1 := ⟨_, rfl⟩
  have hR : uy_Q R (fun z : (Int32) => z) (m_Plan_rainOf x_this_rains f_this_rain p1) := hRe
  have hin_Plan : ∀ w ∈ u_ws RX3 TX3 8, w ∈ wsX3_rainOf := fun w h => List.mem_cons_of_mem _ (List.mem_append_right _ (h))
  delta m_Plan_rainOf at hR
  refine lv_aload_n hx hb dX3_rainOf_0 rfl (lv_at hl 0 rfl) ?_
  refine va_get (D := D) (ci := 3) (v := .int x_this_rains) (C := RX3) (T := TX3) (N := 8) hx hb hts hin_Plan hown hK hP 0 rfl rfl 3 (by decide) (hts (.fieldLink RX3 48 "GutterSeats$Plan" "rains" "I") (List.mem_cons_of_mem _ (List.mem_append_left _ (List.mem_of_getElem? (i := 0) (by first | rfl | decide +kernel))))) (fun _ h9 => h9) rfl dX3_rainOf_1 ?_
  refine lv_if_ne (tgt := 11) hx hb dX3_rainOf_4 (by decide) (fun c1 => ?_) (fun c1 => ?_)
  ·
    replace hR := uy_Qn c1 hR
    have j2 : iv x_this_rains 1 8 := iv_neL c1 i_x_this_rains rfl (by decide)
    refine lv_aload_n hx hb dX3_rainOf_11 rfl (lv_at hl 0 rfl) ?_
    refine va_get (D := D) (ci := 3) (v := .ref q_this_rain) (C := RX3) (T := TX3) (N := 8) hx hb hts hin_Plan hown hK hP 0 rfl rfl 2 (by decide) (hts (.fieldLink RX3 18 "GutterSeats$Plan" "rain" "[I") (List.mem_cons_of_mem _ (List.mem_append_left _ (List.mem_of_getElem? (i := 1) (by first | rfl | decide +kernel))))) (fun _ h9 => h9) rfl dX3_rainOf_12 ?_
    refine lv_iload_n hx hb dX3_rainOf_15 rfl (lv_at hl 1 rfl) ?_
    refine lv_aload_n hx hb dX3_rainOf_16 rfl (lv_at hl 0 rfl) ?_
    refine va_get (D := D) (ci := 3) (v := .int x_this_rains) (C := RX3) (T := TX3) (N := 8) hx hb hts hin_Plan hown hK hP 0 rfl rfl 3 (by decide) (hts (.fieldLink RX3 48 "GutterSeats$Plan" "rains" "I") (List.mem_cons_of_mem _ (List.mem_append_left _ (List.mem_of_getElem? (i := 0) (by first | rfl | decide +kernel))))) (fun _ h9 => h9) rfl dX3_rainOf_17 ?_
    refine lv_irem hx hb dX3_rainOf_20 (ne0_iv j2 (by decide)) ?_
    refine lv_topi (fun x3 ex3 => ?_)
    replace hR := uy_Ls ex3 hR
    have i_x3 : iv x3 0 7 := iv_rem ex3 (iv_w i_p1 (by decide) (by decide) : iv _ 0 5000) j2 (by decide) (by decide)
    have n4 : vp_in x3 8 := iv_in i_x3 (by decide) (by decide)
    refine va_iald hx hb hK hP 1 0 rfl rfl n4 dX3_rainOf_21 ?_
    refine lv_topi (fun x5 ex5 => ?_)
    replace hR := uy_Ls ex5 hR
    exact hE _ _ _ ((uy_Q0 hR).symm.trans hRe) dX3_rainOf_22
  ·
    replace hR := uy_Qp c1 hR
    have j6 : iv x_this_rains 0 0 := by rw [c1]; exact (iv_lit (0 : Int32) (by decide) : iv (0 : Int32) 0 0)
    refine lv_iconst (v := 3) hx hb dX3_rainOf_7 (by decide) ?_
    refine lv_goto (tgt := 22) hx hb dX3_rainOf_8 (by decide) ?_
    exact hE _ _ _ ((uy_Q0 hR).symm.trans hRe) dX3_rainOf_22
