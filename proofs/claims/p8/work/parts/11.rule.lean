abbrev rm_Rule_copyFrom : Room := { frames := 1, cells := 0, slots := 0, locals := 60 }
set_option maxHeartbeats 4000000 in
set_option maxRecDepth 100000 in
theorem c_Rule_copyFrom (l : Launch) (D : va_G) (ct : Nat → ClassId) (q_this q_this_items q_o q_o_items : Nat) (sz : Nat) (x_this_length x_o_length : Int32) (f_this_items f_o_items : Nat → Int32) (i_x_this_length : iv x_this_length 0 700) (a_f_this_items : av f_this_items 700 (-2147483648) 10006) (i_x_o_length : iv x_o_length 0 700) (a_f_o_items : av f_o_items 700 (-2147483648) 10006) : cV l yX5_copyFrom wsX5_copyFrom rm_Rule_copyFrom D ct [(q_this, .inr (5, [.ref q_this_items, .int x_this_length])), (q_this_items, .inl (ct 0, 700, .inl f_this_items)), (q_o, .inr (5, [.ref q_o_items, .int x_o_length])), (q_o_items, .inl (ct 0, 700, .inl f_o_items))] sz [.ref q_this, .ref q_o] (fun u : (Nat → Int32) × Int32 => av u.1 700 (-2147483648) 10006 ∧ iv u.2 0 700 ∧ (u.1, u.2) = m_Rule_copyFrom f_this_items x_o_length f_o_items) (fun u : (Nat → Int32) × Int32 => [(q_this, .inr (5, [.ref q_this_items, .int u.2])), (q_this_items, .inl (ct 0, 700, .inl u.1)), (q_o, .inr (5, [.ref q_o_items, .int x_o_length])), (q_o_items, .inl (ct 0, 700, .inl f_o_items))]) := by
  refine cV_of (cc := cX5_copyFrom) (maxL := 2) (by decide) rfl (Nat.le_of_ble_eq_true rfl) ?_
  intro p e s m args below meth c Q A hx hb hml hts hown hK hP hD hA hAe hsz hname hE ls hl
  have hS : va_S A s.heap s.heap [] := va_S.rf
  have hP : va_P D vwCl [(q_this, .inr (5, [.ref q_this_items, .int x_this_length])), (q_this_items, .inl (ct 0, 700, .inl f_this_items)), (q_o, .inr (5, [.ref q_o_items, .int x_o_length])), (q_o_items, .inl (ct 0, 700, .inl f_o_items))] s.heap := hP
  have hD : va_D A [(q_this, .inr (5, [.ref q_this_items, .int x_this_length])), (q_this_items, .inl (ct 0, 700, .inl f_this_items)), (q_o, .inr (5, [.ref q_o_items, .int x_o_length])), (q_o_items, .inl (ct 0, 700, .inl f_o_items))] := hD
  have hl : lv_has ls 2 [(0, .ref q_this), (1, .ref q_o)] := hl
  obtain ⟨R, hRe⟩ : ∃ R : ((Nat → Int32) × Int32), R = m_Rule_copyFrom f_this_items x_o_length f_o_items := ⟨_, rfl⟩
  have hR : uy_Q R (fun z : ((Nat → Int32) × Int32) => z) (m_Rule_copyFrom f_this_items x_o_length f_o_items) := hRe
  have hin_Rule : ∀ w ∈ u_ws RX5 TX5 2, w ∈ wsX5_copyFrom := fun w h => List.mem_cons_of_mem _ (List.mem_append_right _ (h))
  delta m_Rule_copyFrom at hR
  refine lv_aload_n hx hb dX5_copyFrom_0 rfl (lv_at hl 0 rfl) ?_
  refine lv_aload_n hx hb dX5_copyFrom_1 rfl (lv_at hl 1 rfl) ?_
  refine va_get (D := D) (ci := 5) (v := .int x_o_length) (C := RX5) (T := TX5) (N := 2) hx hb hts hin_Rule hown hK hP 2 rfl rfl 1 (by decide) (hts (.fieldLink RX5 15 "GutterSeats$Rule" "length" "I") (List.mem_cons_of_mem _ (List.mem_append_left _ (List.mem_of_getElem? (i := 0) (by first | rfl | decide +kernel))))) (fun _ h9 => h9) rfl dX5_copyFrom_2 ?_
  refine va_put (D := D) (ci := 5) (v := .int x_o_length) (ty := .int) (C := RX5) (T := TX5) (N := 2) hx hb hts hin_Rule tyX5 tyX5_ok nmX5 hown hK hP hD hS 0 rfl rfl 1 (by decide) (hts (.fieldLink RX5 15 "GutterSeats$Rule" "length" "I") (List.mem_cons_of_mem _ (List.mem_append_left _ (List.mem_of_getElem? (i := 0) (by first | rfl | decide +kernel))))) (fun _ h9 => h9) rfl (by first | exact tyX5_ok 1 (by decide) | decide +kernel) rfl rfl (Nat.le_of_ble_eq_true rfl) dX5_copyFrom_5 (fun H locs hP hD hS => ?_)
  have hP : va_P D vwCl [(q_this, .inr (5, [.ref q_this_items, .int x_o_length])), (q_this_items, .inl (ct 0, 700, .inl f_this_items)), (q_o, .inr (5, [.ref q_o_items, .int x_o_length])), (q_o_items, .inl (ct 0, 700, .inl f_o_items))] H := hP
  have hD : va_D A [(q_this, .inr (5, [.ref q_this_items, .int x_o_length])), (q_this_items, .inl (ct 0, 700, .inl f_this_items)), (q_o, .inr (5, [.ref q_o_items, .int x_o_length])), (q_o_items, .inl (ct 0, 700, .inl f_o_items))] := hD
  refine lv_aload_n hx hb dX5_copyFrom_8 rfl (lv_at hl 1 rfl) ?_
  refine va_get (D := D) (ci := 5) (v := .ref q_o_items) (C := RX5) (T := TX5) (N := 2) hx hb hts hin_Rule hown hK hP 2 rfl rfl 0 (by decide) (hts (.fieldLink RX5 9 "GutterSeats$Rule" "items" "[I") (List.mem_cons_of_mem _ (List.mem_append_left _ (List.mem_of_getElem? (i := 1) (by first | rfl | decide +kernel))))) (fun _ h9 => h9) rfl dX5_copyFrom_9 ?_
  refine lv_iconst (v := 0) hx hb dX5_copyFrom_12 (by decide) ?_
  refine lv_aload_n hx hb dX5_copyFrom_13 rfl (lv_at hl 0 rfl) ?_
  refine va_get (D := D) (ci := 5) (v := .ref q_this_items) (C := RX5) (T := TX5) (N := 2) hx hb hts hin_Rule hown hK hP 0 rfl rfl 0 (by decide) (hts (.fieldLink RX5 9 "GutterSeats$Rule" "items" "[I") (List.mem_cons_of_mem _ (List.mem_append_left _ (List.mem_of_getElem? (i := 1) (by first | rfl | decide +kernel))))) (fun _ h9 => h9) rfl dX5_copyFrom_14 ?_
  refine lv_iconst (v := 0) hx hb dX5_copyFrom_17 (by decide) ?_
  refine lv_aload_n hx hb dX5_copyFrom_18 rfl (lv_at hl 0 rfl) ?_
  refine va_get (D := D) (ci := 5) (v := .int x_o_length) (C := RX5) (T := TX5) (N := 2) hx hb hts hin_Rule hown hK hP 0 rfl rfl 1 (by decide) (hts (.fieldLink RX5 15 "GutterSeats$Rule" "length" "I") (List.mem_cons_of_mem _ (List.mem_append_left _ (List.mem_of_getElem? (i := 0) (by first | rfl | decide +kernel))))) (fun _ h9 => h9) rfl dX5_copyFrom_19 ?_
  refine va_copyi (rest := []) hx hb (by rw [hml]; exact hl.1.symm) hown (hts (.methodLink RX5 19 arraycopyName) (List.mem_cons_of_mem _ (List.mem_append_left _ (List.mem_of_getElem? (i := 2) (by first | rfl | decide +kernel))))) (hts (.native arraycopyName) (List.mem_cons_of_mem _ (List.mem_append_left _ (List.mem_of_getElem? (i := 3) (by first | rfl | decide +kernel))))) (hts (.static arraycopyName) (List.mem_cons_of_mem _ (List.mem_append_left _ (List.mem_of_getElem? (i := 4) (by first | rfl | decide +kernel))))) (hts (.initialized "java/lang/System") (List.mem_cons_of_mem _ (List.mem_append_left _ (List.mem_of_getElem? (i := 5) (by first | rfl | decide +kernel))))) hK hP hD hS 3 1 0 0 rfl rfl rfl rfl rfl (nn_iv (iv_lit (0 : Int32) (by decide) : iv (0 : Int32) 0 0) (by decide)) (nn_iv (iv_lit (0 : Int32) (by decide) : iv (0 : Int32) 0 0) (by decide)) (nn_iv i_x_o_length (by decide)) (cp_iv (iv_lit (0 : Int32) (by decide) : iv (0 : Int32) 0 0) i_x_o_length (by decide) (by decide) (by decide)) (cp_iv (iv_lit (0 : Int32) (by decide) : iv (0 : Int32) 0 0) i_x_o_length (by decide) (by decide) (by decide)) (fun _ _ => rfl) (Nat.le_of_ble_eq_true rfl) (by decide) dX5_copyFrom_22 (fun H locs hP hD hS => ?_)
  obtain ⟨f1, ef1⟩ : ∃ z : Nat → Int32, z = va_cpy f_o_items f_this_items (0 : Int32).toNatClampNeg (0 : Int32).toNatClampNeg x_o_length.toNatClampNeg := ⟨_, rfl⟩
  replace hR := uy_Ls ef1 hR
  rw [← ef1] at hP hD
  have hP : va_P D vwCl [(q_this, .inr (5, [.ref q_this_items, .int x_o_length])), (q_this_items, .inl (ct 0, 700, .inl f1)), (q_o, .inr (5, [.ref q_o_items, .int x_o_length])), (q_o_items, .inl (ct 0, 700, .inl f_o_items))] H := hP
  have hD : va_D A [(q_this, .inr (5, [.ref q_this_items, .int x_o_length])), (q_this_items, .inl (ct 0, 700, .inl f1)), (q_o, .inr (5, [.ref q_o_items, .int x_o_length])), (q_o_items, .inl (ct 0, 700, .inl f_o_items))] := hD
  have a_f1 : av f1 700 (-2147483648) 10006 := by rw [ef1]; exact av_cpy (n1 := 700) (av_w a_f_o_items (by decide) (by decide) (by decide)) (av_w a_f_this_items (by decide) (by decide) (by decide)) (cp_iv (iv_lit (0 : Int32) (by decide) : iv (0 : Int32) 0 0) i_x_o_length (by decide) (by decide) (by decide))
  exact hE (f1, x_o_length) _ _ _ _ ⟨a_f1, i_x_o_length, ((uy_Q0 hR).symm.trans hRe)⟩ hP hD hS dX5_copyFrom_25
abbrev rm_Rule_join : Room := { frames := 0, cells := 0, slots := 0, locals := 0 }
set_option maxHeartbeats 4000000 in
set_option maxRecDepth 100000 in
theorem c_Rule_join (l : Launch) (D : va_G) (ct : Nat → ClassId) (p1 p2 p3 : Int32) : cP l yX5_join wsX5_join rm_Rule_join D ct [] [.int p1, .int p2, .int p3] (fun r : Int32 => r = m_Rule_join p1 p2 p3) := by
  refine cP_of (cc := cX5_join) (maxL := 3) (by decide) rfl (Nat.le_of_ble_eq_true rfl) ?_
  intro p e s m args below meth c Q hx hb hml hts hown hK hP hE ls hl
  have hl : lv_has ls 3 [(0, .int p1), (1, .int p2), (2, .int p3)] := hl
  obtain ⟨R, hRe⟩ : ∃ R : (Int32), R = m_Rule_join p1 p2 p3 := ⟨_, rfl⟩
  have hR : uy_Q R (fun z : (Int32) => z) (m_Rule_join p1 p2 p3) := hRe
  have K56 : ∀  (ls : Array Slot), uy_Q R (fun z : (Int32) => z) (m_Rule_join_k56 p1 p2 p3 ) → lv_has ls 3 [] → W p l e rm_Rule_join s m args below meth c s.heap [] 0 0 Q (F0 m 56 ls []) := by
    intro ls hR hl
    delta m_Rule_join_k56 at hR
    refine lv_iconst (v := 1) hx hb dX5_join_56 (by decide) ?_
    refine lv_goto (tgt := 61) hx hb dX5_join_57 (by decide) ?_
    exact hE _ _ _ ((uy_Q0 hR).symm.trans hRe) dX5_join_61
  delta m_Rule_join at hR
  refine lv_iload_n hx hb dX5_join_0 rfl (lv_at hl 0 rfl) ?_
  by_cases c1 : p1 = (-8 : Int32)
  ·
    have t2 : p1.toInt = (-8) := by rw [c1]; rfl
    refine lv_tableIn (tgt := 106) (off := 105) hx hb dX5_join_1 (by rw [t2]; decide) (by rw [t2]; decide) (by rw [t2]; rfl) (by decide) ?_
    have j3 : iv p1 (-8) (-8) := by rw [c1]; exact (iv_lit (-8 : Int32) (by decide))
    replace hR := uy_Qp c1 hR
    refine lv_iload_n hx hb dX5_join_106 rfl (lv_at hl 1 rfl) ?_
    refine lv_iload_n hx hb dX5_join_107 rfl (lv_at hl 2 rfl) ?_
    refine lv_imul hx hb dX5_join_108 ?_
    refine lv_topi (fun x4 ex4 => ?_)
    replace hR := uy_Ls ex4 hR
    exact hE _ _ _ ((uy_Q0 hR).symm.trans hRe) dX5_join_109
  replace hR := uy_Qn c1 hR
  by_cases c5 : p1 = (-7 : Int32)
  ·
    have t6 : p1.toInt = (-7) := by rw [c5]; rfl
    refine lv_tableIn (tgt := 102) (off := 101) hx hb dX5_join_1 (by rw [t6]; decide) (by rw [t6]; decide) (by rw [t6]; rfl) (by decide) ?_
    have j7 : iv p1 (-7) (-7) := by rw [c5]; exact (iv_lit (-7 : Int32) (by decide))
    replace hR := uy_Qp c5 hR
    refine lv_iload_n hx hb dX5_join_102 rfl (lv_at hl 1 rfl) ?_
    refine lv_iload_n hx hb dX5_join_103 rfl (lv_at hl 2 rfl) ?_
    refine lv_isub hx hb dX5_join_104 ?_
    refine lv_topi (fun x8 ex8 => ?_)
    replace hR := uy_Ls ex8 hR
    exact hE _ _ _ ((uy_Q0 hR).symm.trans hRe) dX5_join_105
  replace hR := uy_Qn c5 hR
  by_cases c9 : p1 = (-6 : Int32)
  ·
    have t10 : p1.toInt = (-6) := by rw [c9]; rfl
    refine lv_tableIn (tgt := 98) (off := 97) hx hb dX5_join_1 (by rw [t10]; decide) (by rw [t10]; decide) (by rw [t10]; rfl) (by decide) ?_
    have j11 : iv p1 (-6) (-6) := by rw [c9]; exact (iv_lit (-6 : Int32) (by decide))
    replace hR := uy_Qp c9 hR
    refine lv_iload_n hx hb dX5_join_98 rfl (lv_at hl 1 rfl) ?_
    refine lv_iload_n hx hb dX5_join_99 rfl (lv_at hl 2 rfl) ?_
    refine lv_iadd hx hb dX5_join_100 ?_
    refine lv_topi (fun x12 ex12 => ?_)
    replace hR := uy_Ls ex12 hR
    exact hE _ _ _ ((uy_Q0 hR).symm.trans hRe) dX5_join_101
  replace hR := uy_Qn c9 hR
  by_cases c13 : p1 = (-5 : Int32)
  ·
    have t14 : p1.toInt = (-5) := by rw [c13]; rfl
    refine lv_tableIn (tgt := 87) (off := 86) hx hb dX5_join_1 (by rw [t14]; decide) (by rw [t14]; decide) (by rw [t14]; rfl) (by decide) ?_
    have j15 : iv p1 (-5) (-5) := by rw [c13]; exact (iv_lit (-5 : Int32) (by decide))
    replace hR := uy_Qp c13 hR
    refine lv_iload_n hx hb dX5_join_87 rfl (lv_at hl 1 rfl) ?_
    refine lv_iload_n hx hb dX5_join_88 rfl (lv_at hl 2 rfl) ?_
    refine lv_icmp_ne (tgt := 96) hx hb dX5_join_89 (by decide) (fun c16 => ?_) (fun c16 => ?_)
    ·
      replace hR := uy_Qn c16 hR
      refine lv_iconst (v := 0) hx hb dX5_join_96 (by decide) ?_
      exact hE _ _ _ ((uy_Q0 hR).symm.trans hRe) dX5_join_97
    ·
      replace hR := uy_Qp c16 hR
      refine lv_iconst (v := 1) hx hb dX5_join_92 (by decide) ?_
      refine lv_goto (tgt := 97) hx hb dX5_join_93 (by decide) ?_
      exact hE _ _ _ ((uy_Q0 hR).symm.trans hRe) dX5_join_97
  replace hR := uy_Qn c13 hR
  by_cases c17 : p1 = (-4 : Int32)
  ·
    have t18 : p1.toInt = (-4) := by rw [c17]; rfl
    refine lv_tableIn (tgt := 76) (off := 75) hx hb dX5_join_1 (by rw [t18]; decide) (by rw [t18]; decide) (by rw [t18]; rfl) (by decide) ?_
    have j19 : iv p1 (-4) (-4) := by rw [c17]; exact (iv_lit (-4 : Int32) (by decide))
    replace hR := uy_Qp c17 hR
    refine lv_iload_n hx hb dX5_join_76 rfl (lv_at hl 1 rfl) ?_
    refine lv_iload_n hx hb dX5_join_77 rfl (lv_at hl 2 rfl) ?_
    refine lv_icmp_ge (tgt := 85) hx hb dX5_join_78 (by decide) (fun c20 => ?_) (fun c20 => ?_)
    ·
      replace hR := uy_Qp c20 hR
      refine lv_iconst (v := 0) hx hb dX5_join_85 (by decide) ?_
      exact hE _ _ _ ((uy_Q0 hR).symm.trans hRe) dX5_join_86
    ·
      replace hR := uy_Qn c20 hR
      have j21 : iv p2 (-2147483648) 2147483646 := iv_ltL (iv_nle c20) (iv_any p2) (iv_any p3) (by decide)
      have j22 : iv p3 (-2147483647) 2147483647 := iv_ltR (iv_nle c20) (iv_any p2) (iv_any p3) (by decide)
      refine lv_iconst (v := 1) hx hb dX5_join_81 (by decide) ?_
      refine lv_goto (tgt := 86) hx hb dX5_join_82 (by decide) ?_
      exact hE _ _ _ ((uy_Q0 hR).symm.trans hRe) dX5_join_86
  replace hR := uy_Qn c17 hR
  by_cases c23 : p1 = (-3 : Int32)
  ·
    have t24 : p1.toInt = (-3) := by rw [c23]; rfl
    refine lv_tableIn (tgt := 110) (off := 109) hx hb dX5_join_1 (by rw [t24]; decide) (by rw [t24]; decide) (by rw [t24]; rfl) (by decide) ?_
    have j25 : iv p1 (-3) (-3) := by rw [c23]; exact (iv_lit (-3 : Int32) (by decide))
    replace hR := uy_Qp c23 hR
    refine lv_iload_n hx hb dX5_join_110 rfl (lv_at hl 2 rfl) ?_
    refine lv_if_ne (tgt := 118) hx hb dX5_join_111 (by decide) (fun c26 => ?_) (fun c26 => ?_)
    ·
      replace hR := uy_Qn c26 hR
      refine lv_iload_n hx hb dX5_join_118 rfl (lv_at hl 1 rfl) ?_
      refine lv_iload_n hx hb dX5_join_119 rfl (lv_at hl 2 rfl) ?_
      refine lv_idiv hx hb dX5_join_120 c26 ?_
      refine lv_topi (fun x27 ex27 => ?_)
      replace hR := uy_Ls ex27 hR
      exact hE _ _ _ ((uy_Q0 hR).symm.trans hRe) dX5_join_121
    ·
      replace hR := uy_Qp c26 hR
      have j28 : iv p3 0 0 := by rw [c26]; exact (iv_lit (0 : Int32) (by decide) : iv (0 : Int32) 0 0)
      refine lv_iconst (v := 0) hx hb dX5_join_114 (by decide) ?_
      refine lv_goto (tgt := 121) hx hb dX5_join_115 (by decide) ?_
      exact hE _ _ _ ((uy_Q0 hR).symm.trans hRe) dX5_join_121
  replace hR := uy_Qn c23 hR
  by_cases c29 : p1 = (-2 : Int32)
  ·
    have t30 : p1.toInt = (-2) := by rw [c29]; rfl
    refine lv_tableIn (tgt := 62) (off := 61) hx hb dX5_join_1 (by rw [t30]; decide) (by rw [t30]; decide) (by rw [t30]; rfl) (by decide) ?_
    have j31 : iv p1 (-2) (-2) := by rw [c29]; exact (iv_lit (-2 : Int32) (by decide))
    replace hR := uy_Qp c29 hR
    refine lv_iload_n hx hb dX5_join_62 rfl (lv_at hl 1 rfl) ?_
    refine lv_if_eq (tgt := 74) hx hb dX5_join_63 (by decide) (fun c32 => ?_) (fun c32 => ?_)
    ·
      replace hR := uy_Qp c32 hR
      have j33 : iv p2 0 0 := by rw [c32]; exact (iv_lit (0 : Int32) (by decide) : iv (0 : Int32) 0 0)
      refine lv_iconst (v := 0) hx hb dX5_join_74 (by decide) ?_
      exact hE _ _ _ ((uy_Q0 hR).symm.trans hRe) dX5_join_75
    ·
      replace hR := uy_Qn c32 hR
      refine lv_iload_n hx hb dX5_join_66 rfl (lv_at hl 2 rfl) ?_
      refine lv_if_eq (tgt := 74) hx hb dX5_join_67 (by decide) (fun c34 => ?_) (fun c34 => ?_)
      ·
        replace hR := uy_Qp c34 hR
        have j35 : iv p3 0 0 := by rw [c34]; exact (iv_lit (0 : Int32) (by decide) : iv (0 : Int32) 0 0)
        refine lv_iconst (v := 0) hx hb dX5_join_74 (by decide) ?_
        exact hE _ _ _ ((uy_Q0 hR).symm.trans hRe) dX5_join_75
      ·
        replace hR := uy_Qn c34 hR
        refine lv_iconst (v := 1) hx hb dX5_join_70 (by decide) ?_
        refine lv_goto (tgt := 75) hx hb dX5_join_71 (by decide) ?_
        exact hE _ _ _ ((uy_Q0 hR).symm.trans hRe) dX5_join_75
  replace hR := uy_Qn c29 hR
  by_cases c36 : p1 = (-1 : Int32)
  ·
    have t37 : p1.toInt = (-1) := by rw [c36]; rfl
    refine lv_tableIn (tgt := 48) (off := 47) hx hb dX5_join_1 (by rw [t37]; decide) (by rw [t37]; decide) (by rw [t37]; rfl) (by decide) ?_
    have j38 : iv p1 (-1) (-1) := by rw [c36]; exact (iv_lit (-1 : Int32) (by decide))
    replace hR := uy_Qp c36 hR
    refine lv_iload_n hx hb dX5_join_48 rfl (lv_at hl 1 rfl) ?_
    refine lv_if_ne (tgt := 56) hx hb dX5_join_49 (by decide) (fun c39 => ?_) (fun c39 => ?_)
    ·
      replace hR := uy_Qn c39 hR
      exact K56 ls hR (lv_sub hl [] rfl)
    ·
      replace hR := uy_Qp c39 hR
      have j40 : iv p2 0 0 := by rw [c39]; exact (iv_lit (0 : Int32) (by decide) : iv (0 : Int32) 0 0)
      refine lv_iload_n hx hb dX5_join_52 rfl (lv_at hl 2 rfl) ?_
      refine lv_if_eq (tgt := 60) hx hb dX5_join_53 (by decide) (fun c41 => ?_) (fun c41 => ?_)
      ·
        replace hR := uy_Qp c41 hR
        have j42 : iv p3 0 0 := by rw [c41]; exact (iv_lit (0 : Int32) (by decide) : iv (0 : Int32) 0 0)
        refine lv_iconst (v := 0) hx hb dX5_join_60 (by decide) ?_
        exact hE _ _ _ ((uy_Q0 hR).symm.trans hRe) dX5_join_61
      ·
        replace hR := uy_Qn c41 hR
        exact K56 ls hR (lv_sub hl [] rfl)
  replace hR := uy_Qn c36 hR
  refine lv_tableOut (tgt := 110) hx hb dX5_join_1 (by have := ((iv_any p1)).1; have := ((iv_any p1)).2; have := ne_i c1; have : (-8 : Int32).toInt = -8 := rfl; have := ne_i c5; have : (-7 : Int32).toInt = -7 := rfl; have := ne_i c9; have : (-6 : Int32).toInt = -6 := rfl; have := ne_i c13; have : (-5 : Int32).toInt = -5 := rfl; have := ne_i c17; have : (-4 : Int32).toInt = -4 := rfl; have := ne_i c23; have : (-3 : Int32).toInt = -3 := rfl; have := ne_i c29; have : (-2 : Int32).toInt = -2 := rfl; have := ne_i c36; have : (-1 : Int32).toInt = -1 := rfl; omega) (by decide) ?_
  refine lv_iload_n hx hb dX5_join_110 rfl (lv_at hl 2 rfl) ?_
  refine lv_if_ne (tgt := 118) hx hb dX5_join_111 (by decide) (fun c43 => ?_) (fun c43 => ?_)
  ·
    replace hR := uy_Qn c43 hR
    refine lv_iload_n hx hb dX5_join_118 rfl (lv_at hl 1 rfl) ?_
    refine lv_iload_n hx hb dX5_join_119 rfl (lv_at hl 2 rfl) ?_
    refine lv_idiv hx hb dX5_join_120 c43 ?_
    refine lv_topi (fun x44 ex44 => ?_)
    replace hR := uy_Ls ex44 hR
    exact hE _ _ _ ((uy_Q0 hR).symm.trans hRe) dX5_join_121
  ·
    replace hR := uy_Qp c43 hR
    have j45 : iv p3 0 0 := by rw [c43]; exact (iv_lit (0 : Int32) (by decide) : iv (0 : Int32) 0 0)
    refine lv_iconst (v := 0) hx hb dX5_join_114 (by decide) ?_
    refine lv_goto (tgt := 121) hx hb dX5_join_115 (by decide) ?_
    exact hE _ _ _ ((uy_Q0 hR).symm.trans hRe) dX5_join_121
abbrev rm_Rule_worth : Room := { frames := 1, cells := 0, slots := 0, locals := 22 }
set_option maxHeartbeats 4000000 in
set_option maxRecDepth 100000 in
theorem c_Rule_worth (l : Launch) (D : va_G) (ct : Nat → ClassId) (q_this q_this_items q_values q_waiting : Nat) (sz : Nat) (x_this_length : Int32) (f_this_items f_values f_waiting : Nat → Int32) (i_x_this_length : iv x_this_length 0 700) (a_f_this_items : av f_this_items 700 (-2147483648) 10006) : cI l yX5_worth wsX5_worth rm_Rule_worth D ct [(q_this, .inr (5, [.ref q_this_items, .int x_this_length])), (q_this_items, .inl (ct 0, 700, .inl f_this_items)), (q_values, .inl (ct 0, 7, .inl f_values)), (q_waiting, .inl (ct 0, 32, .inl f_waiting))] sz [.ref q_this, .ref q_values, .ref q_waiting] (fun (r : Int32) (u : (Nat → Int32)) => (r, u) = m_Rule_worth x_this_length f_this_items f_values f_waiting) (fun u : (Nat → Int32) => [(q_this, .inr (5, [.ref q_this_items, .int x_this_length])), (q_this_items, .inl (ct 0, 700, .inl f_this_items)), (q_values, .inl (ct 0, 7, .inl f_values)), (q_waiting, .inl (ct 0, 32, .inl u))]) := by
  refine cI_of (cc := cX5_worth) (maxL := 6) (by decide) rfl (Nat.le_of_ble_eq_true rfl) ?_
  intro p e s m args below meth c Q A hx hb hml hts hown hK hP hD hA hAe hsz hname hE ls hl
  have hS : va_S A s.heap s.heap [] := va_S.rf
  have hP : va_P D vwCl [(q_this, .inr (5, [.ref q_this_items, .int x_this_length])), (q_this_items, .inl (ct 0, 700, .inl f_this_items)), (q_values, .inl (ct 0, 7, .inl f_values)), (q_waiting, .inl (ct 0, 32, .inl f_waiting))] s.heap := hP
  have hD : va_D A [(q_this, .inr (5, [.ref q_this_items, .int x_this_length])), (q_this_items, .inl (ct 0, 700, .inl f_this_items)), (q_values, .inl (ct 0, 7, .inl f_values)), (q_waiting, .inl (ct 0, 32, .inl f_waiting))] := hD
  have hl : lv_has ls 6 [(0, .ref q_this), (1, .ref q_values), (2, .ref q_waiting)] := hl
  obtain ⟨R, hRe⟩ : ∃ R : (Int32 × (Nat → Int32)), R = m_Rule_worth x_this_length f_this_items f_values f_waiting := ⟨_, rfl⟩
  have hR : uy_Q R (fun z : (Int32 × (Nat → Int32)) => z) (m_Rule_worth x_this_length f_this_items f_values f_waiting) := hRe
  have hin_Rule : ∀ w ∈ u_ws RX5 TX5 2, w ∈ wsX5_worth := fun w h => List.mem_cons_of_mem _ (List.mem_append_right _ (h))
  have K5 : ∀ (n5 : Nat) (v3c5 v4c5 : Int32) (f_waitingc5 : Nat → Int32) (H : Heap) (locs : List Loc) (ls : Array Slot), iv v3c5 0 32 → iv v4c5 0 700 → (700 - v4c5.toInt).toNat < n5 → uy_Q R (fun z : (Int32 × (Nat → Int32)) => z) (m_Rule_worth_k5 x_this_length f_this_items f_values f_waiting (v3c5, v4c5, f_waitingc5)) → va_P D vwCl [(q_this, .inr (5, [.ref q_this_items, .int x_this_length])), (q_this_items, .inl (ct 0, 700, .inl f_this_items)), (q_values, .inl (ct 0, 7, .inl f_values)), (q_waiting, .inl (ct 0, 32, .inl f_waitingc5))] H → va_D A [(q_this, .inr (5, [.ref q_this_items, .int x_this_length])), (q_this_items, .inl (ct 0, 700, .inl f_this_items)), (q_values, .inl (ct 0, 7, .inl f_values)), (q_waiting, .inl (ct 0, 32, .inl f_waitingc5))] → va_S A s.heap H locs → lv_has ls 6 [(0, .ref q_this), (1, .ref q_values), (2, .ref q_waiting), (3, .int v3c5), (4, .int v4c5)] → W p l e rm_Rule_worth s m args below meth c H locs 0 0 Q (F0 m 5 ls []) := by
    intro n5
    induction n5 with
    | zero => intro v3c5 v4c5 f_waitingc5 H locs ls i_v3c5 i_v4c5 hm5 hR hP hD hS hl; exact absurd hm5 (Nat.not_lt_zero _)
    | succ n5 ih5 =>
      intro v3c5 v4c5 f_waitingc5 H locs ls i_v3c5 i_v4c5 hm5 hR hP hD hS hl
      replace hR : uy_Q R (uy_E (fun z : (Int32 × (Nat → Int32)) => z) (m_Rule_worth_k5 x_this_length f_this_items f_values f_waiting)) (m_Rule_worth_b5 x_this_length f_this_items f_values f_waiting v3c5 v4c5 f_waitingc5) := uy_whs hR
      have K122 : ∀ (v3c122 v4c122 : Int32) (f_waitingc122 : Nat → Int32) (H : Heap) (locs : List Loc) (ls : Array Slot), iv v3c122 0 32 → iv v4c122 0 699 → (700 - v4c122.toInt).toNat < n5 + 1 → uy_Q R (uy_E (fun z : (Int32 × (Nat → Int32)) => z) (m_Rule_worth_k5 x_this_length f_this_items f_values f_waiting)) (m_Rule_worth_k122 x_this_length f_this_items f_values f_waiting v3c122 v4c122 f_waitingc122) → va_P D vwCl [(q_this, .inr (5, [.ref q_this_items, .int x_this_length])), (q_this_items, .inl (ct 0, 700, .inl f_this_items)), (q_values, .inl (ct 0, 7, .inl f_values)), (q_waiting, .inl (ct 0, 32, .inl f_waitingc122))] H → va_D A [(q_this, .inr (5, [.ref q_this_items, .int x_this_length])), (q_this_items, .inl (ct 0, 700, .inl f_this_items)), (q_values, .inl (ct 0, 7, .inl f_values)), (q_waiting, .inl (ct 0, 32, .inl f_waitingc122))] → va_S A s.heap H locs → lv_has ls 6 [(0, .ref q_this), (1, .ref q_values), (2, .ref q_waiting), (3, .int v3c122), (4, .int v4c122)] → W p l e rm_Rule_worth s m args below meth c H locs 0 0 Q (F0 m 122 ls []) := by
        intro v3c122 v4c122 f_waitingc122 H locs ls i_v3c122 i_v4c122 hm5 hR hP hD hS hl
        delta m_Rule_worth_k122 at hR
        obtain ⟨x1, ex1⟩ : ∃ z : Int32, z = v4c122 + (1 : Int32) := ⟨_, rfl⟩
        refine lv_iinc (v := x1) (lv' := [(4, .int x1), (0, .ref q_this), (1, .ref q_values), (2, .ref q_waiting), (3, .int v3c122)]) hx hb dX5_worth_122 hl (k := 4) rfl (by rw [ex1]; rfl) (by decide) rfl (fun ls hl => ?_)
        replace hR := uy_Ls ex1 hR
        have i_x1 : iv x1 1 700 := iv_add ex1 i_v4c122 (iv_lit (1 : Int32) (by decide) : iv (1 : Int32) 1 1) (by decide) (by decide) (by decide) (by decide)
        refine lv_goto (tgt := 5) hx hb dX5_worth_125 (by decide) ?_
        exact ih5 v3c122 x1 f_waitingc122 _ _ ls i_v3c122 (iv_w i_x1 (by decide) (by decide)) (ms_up ex1 i_v4c122 (by decide) (by decide) hm5) (uy_Ql hR) hP hD hS (lv_sub hl [1, 2, 3, 4, 0] rfl)
      have K92 : ∀ (v3c92 v4c92 s0c92 s1c92 : Int32) (f_waitingc92 : Nat → Int32) (H : Heap) (locs : List Loc) (ls : Array Slot), iv v3c92 1 32 → iv v4c92 0 699 → iv s0c92 0 1 → iv s1c92 0 31 → (700 - v4c92.toInt).toNat < n5 + 1 → uy_Q R (uy_E (fun z : (Int32 × (Nat → Int32)) => z) (m_Rule_worth_k5 x_this_length f_this_items f_values f_waiting)) (m_Rule_worth_k92 x_this_length f_this_items f_values f_waiting v3c92 v4c92 s0c92 s1c92 f_waitingc92) → va_P D vwCl [(q_this, .inr (5, [.ref q_this_items, .int x_this_length])), (q_this_items, .inl (ct 0, 700, .inl f_this_items)), (q_values, .inl (ct 0, 7, .inl f_values)), (q_waiting, .inl (ct 0, 32, .inl f_waitingc92))] H → va_D A [(q_this, .inr (5, [.ref q_this_items, .int x_this_length])), (q_this_items, .inl (ct 0, 700, .inl f_this_items)), (q_values, .inl (ct 0, 7, .inl f_values)), (q_waiting, .inl (ct 0, 32, .inl f_waitingc92))] → va_S A s.heap H locs → lv_has ls 6 [(0, .ref q_this), (1, .ref q_values), (2, .ref q_waiting), (3, .int v3c92), (4, .int v4c92)] → W p l e rm_Rule_worth s m args below meth c H locs 0 0 Q (F0 m 92 ls [.int s0c92, .int s1c92, .ref q_waiting]) := by
        intro v3c92 v4c92 s0c92 s1c92 f_waitingc92 H locs ls i_v3c92 i_v4c92 i_s0c92 i_s1c92 hm5 hR hP hD hS hl
        delta m_Rule_worth_k92 at hR
        have n2 : vp_in s1c92 32 := iv_in i_s1c92 (by decide) (by decide)
        refine va_iast hx hb hK hP hD hS 3 0 rfl rfl n2 dX5_worth_92 (fun H locs hP hD hS => ?_)
        obtain ⟨f3, ef3⟩ : ∃ z : Nat → Int32, z = upd f_waitingc92 s1c92.toNatClampNeg s0c92 := ⟨_, rfl⟩
        replace hR := uy_Ls ef3 hR
        rw [← ef3] at hP hD
        have hP : va_P D vwCl [(q_this, .inr (5, [.ref q_this_items, .int x_this_length])), (q_this_items, .inl (ct 0, 700, .inl f_this_items)), (q_values, .inl (ct 0, 7, .inl f_values)), (q_waiting, .inl (ct 0, 32, .inl f3))] H := hP
        have hD : va_D A [(q_this, .inr (5, [.ref q_this_items, .int x_this_length])), (q_this_items, .inl (ct 0, 700, .inl f_this_items)), (q_values, .inl (ct 0, 7, .inl f_values)), (q_waiting, .inl (ct 0, 32, .inl f3))] := hD
        refine lv_goto (tgt := 122) hx hb dX5_worth_93 (by decide) ?_
        exact K122 v3c92 v4c92 f3 _ _ ls (iv_w i_v3c92 (by decide) (by decide)) i_v4c92 hm5 hR hP hD hS (lv_sub hl [0, 1, 2, 3, 4] rfl)
      have K57 : ∀ (v3c57 v4c57 s0c57 s1c57 : Int32) (f_waitingc57 : Nat → Int32) (H : Heap) (locs : List Loc) (ls : Array Slot), iv v3c57 0 31 → iv v4c57 0 699 → iv s1c57 0 31 → (700 - v4c57.toInt).toNat < n5 + 1 → uy_Q R (uy_E (fun z : (Int32 × (Nat → Int32)) => z) (m_Rule_worth_k5 x_this_length f_this_items f_values f_waiting)) (m_Rule_worth_k57 x_this_length f_this_items f_values f_waiting v3c57 v4c57 s0c57 s1c57 f_waitingc57) → va_P D vwCl [(q_this, .inr (5, [.ref q_this_items, .int x_this_length])), (q_this_items, .inl (ct 0, 700, .inl f_this_items)), (q_values, .inl (ct 0, 7, .inl f_values)), (q_waiting, .inl (ct 0, 32, .inl f_waitingc57))] H → va_D A [(q_this, .inr (5, [.ref q_this_items, .int x_this_length])), (q_this_items, .inl (ct 0, 700, .inl f_this_items)), (q_values, .inl (ct 0, 7, .inl f_values)), (q_waiting, .inl (ct 0, 32, .inl f_waitingc57))] → va_S A s.heap H locs → lv_has ls 6 [(0, .ref q_this), (1, .ref q_values), (2, .ref q_waiting), (3, .int v3c57), (4, .int v4c57)] → W p l e rm_Rule_worth s m args below meth c H locs 0 0 Q (F0 m 57 ls [.int s0c57, .int s1c57, .ref q_waiting]) := by
        intro v3c57 v4c57 s0c57 s1c57 f_waitingc57 H locs ls i_v3c57 i_v4c57 i_s1c57 hm5 hR hP hD hS hl
        delta m_Rule_worth_k57 at hR
        have n4 : vp_in s1c57 32 := iv_in i_s1c57 (by decide) (by decide)
        refine va_iast hx hb hK hP hD hS 3 0 rfl rfl n4 dX5_worth_57 (fun H locs hP hD hS => ?_)
        obtain ⟨f5, ef5⟩ : ∃ z : Nat → Int32, z = upd f_waitingc57 s1c57.toNatClampNeg s0c57 := ⟨_, rfl⟩
        replace hR := uy_Ls ef5 hR
        rw [← ef5] at hP hD
        have hP : va_P D vwCl [(q_this, .inr (5, [.ref q_this_items, .int x_this_length])), (q_this_items, .inl (ct 0, 700, .inl f_this_items)), (q_values, .inl (ct 0, 7, .inl f_values)), (q_waiting, .inl (ct 0, 32, .inl f5))] H := hP
        have hD : va_D A [(q_this, .inr (5, [.ref q_this_items, .int x_this_length])), (q_this_items, .inl (ct 0, 700, .inl f_this_items)), (q_values, .inl (ct 0, 7, .inl f_values)), (q_waiting, .inl (ct 0, 32, .inl f5))] := hD
        obtain ⟨x6, ex6⟩ : ∃ z : Int32, z = v3c57 + (1 : Int32) := ⟨_, rfl⟩
        refine lv_iinc (v := x6) (lv' := [(3, .int x6), (0, .ref q_this), (1, .ref q_values), (2, .ref q_waiting), (4, .int v4c57)]) hx hb dX5_worth_58 hl (k := 3) rfl (by rw [ex6]; rfl) (by decide) rfl (fun ls hl => ?_)
        replace hR := uy_Ls ex6 hR
        have i_x6 : iv x6 1 32 := iv_add ex6 i_v3c57 (iv_lit (1 : Int32) (by decide) : iv (1 : Int32) 1 1) (by decide) (by decide) (by decide) (by decide)
        refine lv_goto (tgt := 122) hx hb dX5_worth_61 (by decide) ?_
        exact K122 x6 v4c57 f5 _ _ ls (iv_w i_x6 (by decide) (by decide)) i_v4c57 hm5 hR hP hD hS (lv_sub hl [1, 2, 3, 0, 4] rfl)
      delta m_Rule_worth_b5 at hR
      refine lv_iload hx hb dX5_worth_5 (lv_at hl 4 rfl) ?_
      refine lv_aload_n hx hb dX5_worth_7 rfl (lv_at hl 0 rfl) ?_
      refine va_get (D := D) (ci := 5) (v := .int x_this_length) (C := RX5) (T := TX5) (N := 2) hx hb hts hin_Rule hown hK hP 0 rfl rfl 1 (by decide) (hts (.fieldLink RX5 15 "GutterSeats$Rule" "length" "I") (List.mem_cons_of_mem _ (List.mem_append_left _ (List.mem_of_getElem? (i := 0) (by first | rfl | decide +kernel))))) (fun _ h9 => h9) rfl dX5_worth_8 ?_
      refine lv_icmp_ge (tgt := 128) hx hb dX5_worth_11 (by decide) (fun c7 => ?_) (fun c7 => ?_)
      ·
        replace hR := uy_Qp c7 hR
        refine lv_iload_n hx hb dX5_worth_128 rfl (lv_at hl 3 rfl) ?_
        refine lv_if_le (tgt := 140) hx hb dX5_worth_129 (by decide) (fun c8 => ?_) (fun c8 => ?_)
        ·
          replace hR := uy_Qp c8 hR
          have j9 : iv v3c5 0 0 := iv_leL c8 i_v3c5 (iv_lit (0 : Int32) (by decide) : iv (0 : Int32) 0 0) (by decide)
          refine lv_iconst (v := 0) hx hb dX5_worth_140 (by decide) ?_
          exact hE _ f_waitingc5 _ _ _ _ ((uy_Q0 (uy_Qr hR)).symm.trans hRe) hP hD hS dX5_worth_141
        ·
          replace hR := uy_Qn c8 hR
          have j10 : iv v3c5 1 32 := iv_ltR (iv_nle c8) (iv_lit (0 : Int32) (by decide) : iv (0 : Int32) 0 0) i_v3c5 (by decide)
          refine lv_aload_n hx hb dX5_worth_132 rfl (lv_at hl 2 rfl) ?_
          refine lv_iload_n hx hb dX5_worth_133 rfl (lv_at hl 3 rfl) ?_
          refine lv_iconst (v := 1) hx hb dX5_worth_134 (by decide) ?_
          refine lv_isub hx hb dX5_worth_135 ?_
          refine lv_topi (fun x11 ex11 => ?_)
          replace hR := uy_Ls ex11 hR
          have i_x11 : iv x11 0 31 := iv_sub ex11 j10 (iv_lit (1 : Int32) (by decide) : iv (1 : Int32) 1 1) (by decide) (by decide) (by decide) (by decide)
          have n12 : vp_in x11 32 := iv_in i_x11 (by decide) (by decide)
          refine va_iald hx hb hK hP 3 0 rfl rfl n12 dX5_worth_136 ?_
          refine lv_topi (fun x13 ex13 => ?_)
          replace hR := uy_Ls ex13 hR
          refine lv_goto (tgt := 141) hx hb dX5_worth_137 (by decide) ?_
          exact hE _ f_waitingc5 _ _ _ _ ((uy_Q0 (uy_Qr hR)).symm.trans hRe) hP hD hS dX5_worth_141
      ·
        replace hR := uy_Qn c7 hR
        have j14 : iv v4c5 0 699 := iv_ltL (iv_nle c7) i_v4c5 i_x_this_length (by decide)
        have j15 : iv x_this_length 1 700 := iv_ltR (iv_nle c7) i_v4c5 i_x_this_length (by decide)
        refine lv_aload_n hx hb dX5_worth_14 rfl (lv_at hl 0 rfl) ?_
        refine va_get (D := D) (ci := 5) (v := .ref q_this_items) (C := RX5) (T := TX5) (N := 2) hx hb hts hin_Rule hown hK hP 0 rfl rfl 0 (by decide) (hts (.fieldLink RX5 9 "GutterSeats$Rule" "items" "[I") (List.mem_cons_of_mem _ (List.mem_append_left _ (List.mem_of_getElem? (i := 1) (by first | rfl | decide +kernel))))) (fun _ h9 => h9) rfl dX5_worth_15 ?_
        refine lv_iload hx hb dX5_worth_18 (lv_at hl 4 rfl) ?_
        have n16 : vp_in v4c5 700 := iv_in j14 (by decide) (by decide)
        refine va_iald hx hb hK hP 1 0 rfl rfl n16 dX5_worth_20 ?_
        refine lv_topi (fun x17 ex17 => ?_)
        replace hR := uy_Ls ex17 hR
        have i_x17 : iv x17 (-2147483648) 10006 := by rw [ex17]; exact av_get a_f_this_items n16
        refine lv_istore (lv' := [(5, .int x17), (0, .ref q_this), (1, .ref q_values), (2, .ref q_waiting), (3, .int v3c5), (4, .int v4c5)]) hx hb dX5_worth_21 hl (by decide) rfl (fun ls hl => ?_)
        refine lv_iload hx hb dX5_worth_23 (lv_at hl 0 rfl) ?_
        refine lv_if_lt (tgt := 64) hx hb dX5_worth_25 (by decide) (fun c18 => ?_) (fun c18 => ?_)
        ·
          replace hR := uy_Qp c18 hR
          have j19 : iv x17 (-2147483648) (-1) := iv_ltL c18 i_x17 (iv_lit (0 : Int32) (by decide) : iv (0 : Int32) 0 0) (by decide)
          refine lv_iload hx hb dX5_worth_64 (lv_at hl 0 rfl) ?_
          refine lv_bipush (v := -3) hx hb dX5_worth_66 (by decide) ?_
          refine lv_icmp_ne (tgt := 96) hx hb dX5_worth_68 (by decide) (fun c20 => ?_) (fun c20 => ?_)
          ·
            replace hR := uy_Qn c20 hR
            refine lv_iload_n hx hb dX5_worth_96 rfl (lv_at hl 4 rfl) ?_
            refine lv_iconst (v := 1) hx hb dX5_worth_97 (by decide) ?_
            refine lv_icmp_le (tgt := 122) hx hb dX5_worth_98 (by decide) (fun c21 => ?_) (fun c21 => ?_)
            ·
              replace hR := uy_Qp c21 hR
              have j22 : iv v3c5 0 1 := iv_leL c21 i_v3c5 (iv_lit (1 : Int32) (by decide) : iv (1 : Int32) 1 1) (by decide)
              exact K122 v3c5 v4c5 f_waitingc5 _ _ ls (iv_w j22 (by decide) (by decide)) j14 hm5 hR hP hD hS (lv_sub hl [1, 2, 3, 4, 5] rfl)
            ·
              replace hR := uy_Qn c21 hR
              have j23 : iv v3c5 2 32 := iv_ltR (iv_nle c21) (iv_lit (1 : Int32) (by decide) : iv (1 : Int32) 1 1) i_v3c5 (by decide)
              obtain ⟨x24, ex24⟩ : ∃ z : Int32, z = v3c5 + (-1 : Int32) := ⟨_, rfl⟩
              refine lv_iinc (v := x24) (lv' := [(3, .int x24), (5, .int x17), (0, .ref q_this), (1, .ref q_values), (2, .ref q_waiting), (4, .int v4c5)]) hx hb dX5_worth_101 hl (k := 4) rfl (by rw [ex24]; rfl) (by decide) rfl (fun ls hl => ?_)
              replace hR := uy_Ls ex24 hR
              have i_x24 : iv x24 1 31 := iv_add ex24 j23 (iv_lit (-1 : Int32) (by decide) : iv (-1 : Int32) (-1) (-1)) (by decide) (by decide) (by decide) (by decide)
              refine lv_aload_n hx hb dX5_worth_104 rfl (lv_at hl 4 rfl) ?_
              refine lv_iload_n hx hb dX5_worth_105 rfl (lv_at hl 0 rfl) ?_
              refine lv_iconst (v := 1) hx hb dX5_worth_106 (by decide) ?_
              refine lv_isub hx hb dX5_worth_107 ?_
              refine lv_topi (fun x25 ex25 => ?_)
              replace hR := uy_Ls ex25 hR
              have i_x25 : iv x25 0 30 := iv_sub ex25 i_x24 (iv_lit (1 : Int32) (by decide) : iv (1 : Int32) 1 1) (by decide) (by decide) (by decide) (by decide)
              refine lv_iload hx hb dX5_worth_108 (lv_at hl 1 rfl) ?_
              refine lv_aload_n hx hb dX5_worth_110 rfl (lv_at hl 4 rfl) ?_
              refine lv_iload_n hx hb dX5_worth_111 rfl (lv_at hl 0 rfl) ?_
              refine lv_iconst (v := 1) hx hb dX5_worth_112 (by decide) ?_
              refine lv_isub hx hb dX5_worth_113 ?_
              refine lv_topi (fun x26 ex26 => ?_)
              replace hR := uy_Ls ex26 hR
              have i_x26 : iv x26 0 30 := iv_sub ex26 i_x24 (iv_lit (1 : Int32) (by decide) : iv (1 : Int32) 1 1) (by decide) (by decide) (by decide) (by decide)
              have n27 : vp_in x26 32 := iv_in i_x26 (by decide) (by decide)
              refine va_iald hx hb hK hP 3 0 rfl rfl n27 dX5_worth_114 ?_
              refine lv_topi (fun x28 ex28 => ?_)
              replace hR := uy_Ls ex28 hR
              refine lv_aload_n hx hb dX5_worth_115 rfl (lv_at hl 4 rfl) ?_
              refine lv_iload_n hx hb dX5_worth_116 rfl (lv_at hl 0 rfl) ?_
              have n29 : vp_in x24 32 := iv_in i_x24 (by decide) (by decide)
              refine va_iald hx hb hK hP 3 0 rfl rfl n29 dX5_worth_117 ?_
              refine lv_topi (fun x30 ex30 => ?_)
              replace hR := uy_Ls ex30 hR
              refine kPS (rest := [.int x25, .ref q_waiting]) ⟨hx, hb, hml, hown, hts⟩ (c_Rule_join l D ct x17 x28 x30) (va_cwS 3 hts gX5_worth_X5_join rfl rfl rfl (by first | exact hdX5_join_3.2 | decide +kernel) ⟨(Nat.le_of_ble_eq_true rfl), (Nat.le_of_ble_eq_true rfl)⟩) hK hP [] rfl rfl hl.1 rfl (Nat.le_of_ble_eq_true rfl) dX5_worth_118 ⟨(Nat.le_of_ble_eq_true rfl), (Nat.le_of_ble_eq_true rfl)⟩ (fun r31 hr31 => ?_)
              have m32 : r31 = m_Rule_join x17 x28 x30 := hr31
              replace hR := uy_Cs1 m32 hR
              have n33 : vp_in x25 32 := iv_in i_x25 (by decide) (by decide)
              refine va_iast hx hb hK hP hD hS 3 0 rfl rfl n33 dX5_worth_121 (fun H locs hP hD hS => ?_)
              obtain ⟨f34, ef34⟩ : ∃ z : Nat → Int32, z = upd f_waitingc5 x25.toNatClampNeg r31 := ⟨_, rfl⟩
              replace hR := uy_Ls ef34 hR
              rw [← ef34] at hP hD
              have hP : va_P D vwCl [(q_this, .inr (5, [.ref q_this_items, .int x_this_length])), (q_this_items, .inl (ct 0, 700, .inl f_this_items)), (q_values, .inl (ct 0, 7, .inl f_values)), (q_waiting, .inl (ct 0, 32, .inl f34))] H := hP
              have hD : va_D A [(q_this, .inr (5, [.ref q_this_items, .int x_this_length])), (q_this_items, .inl (ct 0, 700, .inl f_this_items)), (q_values, .inl (ct 0, 7, .inl f_values)), (q_waiting, .inl (ct 0, 32, .inl f34))] := hD
              exact K122 x24 v4c5 f34 _ _ ls (iv_w i_x24 (by decide) (by decide)) j14 hm5 hR hP hD hS (lv_sub hl [2, 3, 4, 0, 5] rfl)
          ·
            replace hR := uy_Qp c20 hR
            have j35 : iv x17 (-3) (-3) := by rw [c20]; exact (iv_lit (-3 : Int32) (by decide) : iv (-3 : Int32) (-3) (-3))
            refine lv_iload_n hx hb dX5_worth_71 rfl (lv_at hl 4 rfl) ?_
            refine lv_if_le (tgt := 122) hx hb dX5_worth_72 (by decide) (fun c36 => ?_) (fun c36 => ?_)
            ·
              replace hR := uy_Qp c36 hR
              have j37 : iv v3c5 0 0 := iv_leL c36 i_v3c5 (iv_lit (0 : Int32) (by decide) : iv (0 : Int32) 0 0) (by decide)
              exact K122 v3c5 v4c5 f_waitingc5 _ _ ls (iv_w j37 (by decide) (by decide)) j14 hm5 hR hP hD hS (lv_sub hl [1, 2, 3, 4, 5] rfl)
            ·
              replace hR := uy_Qn c36 hR
              have j38 : iv v3c5 1 32 := iv_ltR (iv_nle c36) (iv_lit (0 : Int32) (by decide) : iv (0 : Int32) 0 0) i_v3c5 (by decide)
              refine lv_aload_n hx hb dX5_worth_75 rfl (lv_at hl 3 rfl) ?_
              refine lv_iload_n hx hb dX5_worth_76 rfl (lv_at hl 4 rfl) ?_
              refine lv_iconst (v := 1) hx hb dX5_worth_77 (by decide) ?_
              refine lv_isub hx hb dX5_worth_78 ?_
              refine lv_topi (fun x39 ex39 => ?_)
              replace hR := uy_Ls ex39 hR
              have i_x39 : iv x39 0 31 := iv_sub ex39 j38 (iv_lit (1 : Int32) (by decide) : iv (1 : Int32) 1 1) (by decide) (by decide) (by decide) (by decide)
              refine lv_aload_n hx hb dX5_worth_79 rfl (lv_at hl 3 rfl) ?_
              refine lv_iload_n hx hb dX5_worth_80 rfl (lv_at hl 4 rfl) ?_
              refine lv_iconst (v := 1) hx hb dX5_worth_81 (by decide) ?_
              refine lv_isub hx hb dX5_worth_82 ?_
              refine lv_topi (fun x40 ex40 => ?_)
              replace hR := uy_Ls ex40 hR
              have i_x40 : iv x40 0 31 := iv_sub ex40 j38 (iv_lit (1 : Int32) (by decide) : iv (1 : Int32) 1 1) (by decide) (by decide) (by decide) (by decide)
              have n41 : vp_in x40 32 := iv_in i_x40 (by decide) (by decide)
              refine va_iald hx hb hK hP 3 0 rfl rfl n41 dX5_worth_83 ?_
              refine lv_topi (fun x42 ex42 => ?_)
              replace hR := uy_Ls ex42 hR
              refine lv_if_ne (tgt := 91) hx hb dX5_worth_84 (by decide) (fun c43 => ?_) (fun c43 => ?_)
              ·
                replace hR := uy_Qn c43 hR
                refine lv_iconst (v := 0) hx hb dX5_worth_91 (by decide) ?_
                exact K92 v3c5 v4c5 (0 : Int32) x39 f_waitingc5 _ _ ls j38 j14 (iv_lit (0 : Int32) (by decide) : iv (0 : Int32) 0 1) i_x39 hm5 hR hP hD hS (lv_sub hl [1, 2, 3, 4, 5] rfl)
              ·
                replace hR := uy_Qp c43 hR
                have j44 : iv x42 0 0 := by rw [c43]; exact (iv_lit (0 : Int32) (by decide) : iv (0 : Int32) 0 0)
                refine lv_iconst (v := 1) hx hb dX5_worth_87 (by decide) ?_
                refine lv_goto (tgt := 92) hx hb dX5_worth_88 (by decide) ?_
                exact K92 v3c5 v4c5 (1 : Int32) x39 f_waitingc5 _ _ ls j38 j14 (iv_lit (1 : Int32) (by decide) : iv (1 : Int32) 0 1) i_x39 hm5 hR hP hD hS (lv_sub hl [1, 2, 3, 4, 5] rfl)
        ·
          replace hR := uy_Qn c18 hR
          have j45 : iv x17 0 10006 := iv_leR (iv_nlt c18) (iv_lit (0 : Int32) (by decide) : iv (0 : Int32) 0 0) i_x17 (by decide)
          refine lv_iload_n hx hb dX5_worth_28 rfl (lv_at hl 4 rfl) ?_
          refine lv_aload_n hx hb dX5_worth_29 rfl (lv_at hl 3 rfl) ?_
          refine va_alen hx hb hK hP 3 0 rfl rfl (v := 32) rfl dX5_worth_30 ?_
          refine lv_icmp_ge (tgt := 122) hx hb dX5_worth_31 (by decide) (fun c46 => ?_) (fun c46 => ?_)
          ·
            replace hR := uy_Qp c46 hR
            have j47 : iv v3c5 32 32 := iv_leR c46 (iv_lit (32 : Int32) (by decide) : iv (32 : Int32) 32 32) i_v3c5 (by decide)
            exact K122 v3c5 v4c5 f_waitingc5 _ _ ls (iv_w j47 (by decide) (by decide)) j14 hm5 hR hP hD hS (lv_sub hl [1, 2, 3, 4, 5] rfl)
          ·
            replace hR := uy_Qn c46 hR
            have j48 : iv v3c5 0 31 := iv_ltL (iv_nle c46) i_v3c5 (iv_lit (32 : Int32) (by decide) : iv (32 : Int32) 32 32) (by decide)
            refine lv_aload_n hx hb dX5_worth_34 rfl (lv_at hl 3 rfl) ?_
            refine lv_iload_n hx hb dX5_worth_35 rfl (lv_at hl 4 rfl) ?_
            refine lv_iload hx hb dX5_worth_36 (lv_at hl 0 rfl) ?_
            refine lv_sipush (v := 10000) hx hb dX5_worth_38 (by decide) ?_
            refine lv_icmp_ge (tgt := 49) hx hb dX5_worth_41 (by decide) (fun c49 => ?_) (fun c49 => ?_)
            ·
              replace hR := uy_Qp c49 hR
              have j50 : iv x17 10000 10006 := iv_leR c49 (iv_lit (10000 : Int32) (by decide) : iv (10000 : Int32) 10000 10000) j45 (by decide)
              refine lv_aload_n hx hb dX5_worth_49 rfl (lv_at hl 2 rfl) ?_
              refine lv_iload hx hb dX5_worth_50 (lv_at hl 0 rfl) ?_
              refine lv_sipush (v := 10000) hx hb dX5_worth_52 (by decide) ?_
              refine lv_isub hx hb dX5_worth_55 ?_
              refine lv_topi (fun x51 ex51 => ?_)
              replace hR := uy_Ls ex51 hR
              have i_x51 : iv x51 0 6 := iv_sub ex51 j50 (iv_lit (10000 : Int32) (by decide) : iv (10000 : Int32) 10000 10000) (by decide) (by decide) (by decide) (by decide)
              have n52 : vp_in x51 7 := iv_in i_x51 (by decide) (by decide)
              refine va_iald hx hb hK hP 2 0 rfl rfl n52 dX5_worth_56 ?_
              refine lv_topi (fun x53 ex53 => ?_)
              replace hR := uy_Ls ex53 hR
              exact K57 v3c5 v4c5 x53 v3c5 f_waitingc5 _ _ ls j48 j14 j48 hm5 hR hP hD hS (lv_sub hl [1, 2, 3, 4, 5] rfl)
            ·
              replace hR := uy_Qn c49 hR
              have j54 : iv x17 0 9999 := iv_ltL (iv_nle c49) j45 (iv_lit (10000 : Int32) (by decide) : iv (10000 : Int32) 10000 10000) (by decide)
              refine lv_iload hx hb dX5_worth_44 (lv_at hl 0 rfl) ?_
              refine lv_goto (tgt := 57) hx hb dX5_worth_46 (by decide) ?_
              exact K57 v3c5 v4c5 x17 v3c5 f_waitingc5 _ _ ls j48 j14 j48 hm5 hR hP hD hS (lv_sub hl [1, 2, 3, 4, 5] rfl)
  delta m_Rule_worth at hR
  refine lv_iconst (v := 0) hx hb dX5_worth_0 (by decide) ?_
  refine lv_istore_n (lv' := [(3, .int (0 : Int32)), (0, .ref q_this), (1, .ref q_values), (2, .ref q_waiting)]) hx hb dX5_worth_1 rfl hl (by decide) rfl (fun ls hl => ?_)
  refine lv_iconst (v := 0) hx hb dX5_worth_2 (by decide) ?_
  refine lv_istore (lv' := [(4, .int (0 : Int32)), (3, .int (0 : Int32)), (0, .ref q_this), (1, .ref q_values), (2, .ref q_waiting)]) hx hb dX5_worth_3 hl (by decide) rfl (fun ls hl => ?_)
  exact K5 _ (0 : Int32) (0 : Int32) f_waiting _ _ ls (iv_lit (0 : Int32) (by decide) : iv (0 : Int32) 0 32) (iv_lit (0 : Int32) (by decide) : iv (0 : Int32) 0 700) (Nat.lt_succ_self _) hR hP hD hS (lv_sub hl [2, 3, 4, 1, 0] rfl)
