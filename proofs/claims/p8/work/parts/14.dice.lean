abbrev rm_Dice_draw : Room := { frames := 0, cells := 0, slots := 0, locals := 0 }
set_option maxHeartbeats 4000000 in
set_option maxRecDepth 100000 in
theorem c_Dice_draw (l : Launch) (D : va_G) (ct : Nat → ClassId) (q_this : Nat) (sz : Nat) (x_this_seed : Int32) (p1 : Int32) (i_p1 : iv p1 1 10) : cI l yX1_draw wsX1_draw rm_Dice_draw D ct [(q_this, .inr (1, [.int x_this_seed]))] sz [.ref q_this, .int p1] (fun (r : Int32) (u : Int32) => iv r 0 9 ∧ r.toInt < p1.toInt ∧ (r, u) = m_Dice_draw x_this_seed p1) (fun u : Int32 => [(q_this, .inr (1, [.int u]))]) := by
  refine cI_of (cc := cX1_draw) (maxL := 2) (by decide) rfl (Nat.le_of_ble_eq_true rfl) ?_
  intro p e s m args below meth c Q A hx hb hml hts hown hK hP hD hA hAe hsz hname hE ls hl
  have hS : va_S A s.heap s.heap [] := va_S.rf
  have hP : va_P D vwCl [(q_this, .inr (1, [.int x_this_seed]))] s.heap := hP
  have hD : va_D A [(q_this, .inr (1, [.int x_this_seed]))] := hD
  have hl : lv_has ls 2 [(0, .ref q_this), (1, .int p1)] := hl
  obtain ⟨R, hRe⟩ : ∃ R : (Int32 × Int32), R = m_Dice_draw x_this_seed p1 := ⟨_, rfl⟩
  have hR : uy_Q R (fun z : (Int32 × Int32) => z) (m_Dice_draw x_this_seed p1) := hRe
  have hin_Dice : ∀ w ∈ u_ws RX1 TX1 1, w ∈ wsX1_draw := fun w h => List.mem_cons_of_mem _ (List.mem_append_right _ (h))
  delta m_Dice_draw at hR
  refine lv_aload_n hx hb dX1_draw_0 rfl (lv_at hl 0 rfl) ?_
  refine lv_aload_n hx hb dX1_draw_1 rfl (lv_at hl 0 rfl) ?_
  refine va_get (D := D) (ci := 1) (v := .int x_this_seed) (C := RX1) (T := TX1) (N := 1) hx hb hts hin_Dice hown hK hP 0 rfl rfl 0 (by decide) (hts (.fieldLink RX1 7 "GutterSeats$Dice" "seed" "I") (List.mem_cons_of_mem _ (List.mem_append_left _ (List.mem_of_getElem? (i := 0) (by first | rfl | decide +kernel))))) (fun _ h9 => h9) rfl dX1_draw_2 ?_
  refine lv_ldc (v := 1103515245) hx hb hown (hts (.constant RX1 13 (1103515245)) (List.mem_cons_of_mem _ (List.mem_append_left _ (List.mem_of_getElem? (i := 1) (by first | rfl | decide +kernel))))) dX1_draw_5 ?_
  refine lv_imul hx hb dX1_draw_7 ?_
  refine lv_topi (fun x1 ex1 => ?_)
  replace hR := uy_Ls ex1 hR
  refine lv_sipush (v := 12345) hx hb dX1_draw_8 (by decide) ?_
  refine lv_iadd hx hb dX1_draw_11 ?_
  refine lv_topi (fun x2 ex2 => ?_)
  replace hR := uy_Ls ex2 hR
  refine va_put (D := D) (ci := 1) (v := .int x2) (ty := .int) (C := RX1) (T := TX1) (N := 1) hx hb hts hin_Dice tyX1 tyX1_ok nmX1 hown hK hP hD hS 0 rfl rfl 0 (by decide) (hts (.fieldLink RX1 7 "GutterSeats$Dice" "seed" "I") (List.mem_cons_of_mem _ (List.mem_append_left _ (List.mem_of_getElem? (i := 0) (by first | rfl | decide +kernel))))) (fun _ h9 => h9) rfl (by first | exact tyX1_ok 0 (by decide) | decide +kernel) rfl rfl (Nat.le_of_ble_eq_true rfl) dX1_draw_12 (fun H locs hP hD hS => ?_)
  have hP : va_P D vwCl [(q_this, .inr (1, [.int x2]))] H := hP
  have hD : va_D A [(q_this, .inr (1, [.int x2]))] := hD
  refine lv_iload_n hx hb dX1_draw_15 rfl (lv_at hl 1 rfl) ?_
  refine lv_if_le (tgt := 35) hx hb dX1_draw_16 (by decide) (fun c3 => ?_) (fun c3 => ?_)
  ·
    exfalso; have z1 := le_i c3; have z2 := (i_p1).1; have z3 := ((iv_lit (0 : Int32) (by decide) : iv (0 : Int32) 0 0)).2; omega
  ·
    refine lv_aload_n hx hb dX1_draw_19 rfl (lv_at hl 0 rfl) ?_
    refine va_get (D := D) (ci := 1) (v := .int x2) (C := RX1) (T := TX1) (N := 1) hx hb hts hin_Dice hown hK hP 0 rfl rfl 0 (by decide) (hts (.fieldLink RX1 7 "GutterSeats$Dice" "seed" "I") (List.mem_cons_of_mem _ (List.mem_append_left _ (List.mem_of_getElem? (i := 0) (by first | rfl | decide +kernel))))) (fun _ h9 => h9) rfl dX1_draw_20 ?_
    refine lv_bipush (v := 16) hx hb dX1_draw_23 (by decide) ?_
    refine lv_iushr hx hb dX1_draw_25 rfl ?_
    refine lv_topi (fun x4 ex4 => ?_)
    replace hR := uy_Ls ex4 hR
    refine lv_sipush (v := 32767) hx hb dX1_draw_26 (by decide) ?_
    refine lv_iand hx hb dX1_draw_29 ?_
    refine lv_topi (fun x5 ex5 => ?_)
    replace hR := uy_Ls ex5 hR
    have i_x5 : iv x5 0 32767 := iv_and ex5 (iv_lit (32767 : Int32) (by decide) : iv (32767 : Int32) 32767 32767) (by decide)
    refine lv_iload_n hx hb dX1_draw_30 rfl (lv_at hl 1 rfl) ?_
    refine lv_irem hx hb dX1_draw_31 (ne0_iv i_p1 (by decide)) ?_
    refine lv_topi (fun x6 ex6 => ?_)
    replace hR := uy_Ls ex6 hR
    have i_x6 : iv x6 0 9 := iv_rem ex6 (iv_w i_x5 (by decide) (by decide) : iv _ 0 32767) i_p1 (by decide) (by decide)
    refine lv_goto (tgt := 36) hx hb dX1_draw_32 (by decide) ?_
    exact hE _ x2 _ _ _ _ ⟨i_x6, (show x6.toInt < p1.toInt from (by have := (i_x6).1; have := (i_x6).2; have := rem_lt ex6 i_x5 i_p1 (by decide) (by decide); have := (i_p1).1; have := (i_p1).2; have : (0 : Int32).toInt = 0 := rfl; have := lt_i (iv_nle c3); omega)), ((uy_Q0 hR).symm.trans hRe)⟩ hP hD hS dX1_draw_36
