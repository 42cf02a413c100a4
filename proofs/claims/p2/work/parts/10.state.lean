abbrev rm_State_faceOf : Room := { frames := 0, cells := 0, slots := 0, locals := 0 }
set_option maxHeartbeats 4000000 in
set_option maxRecDepth 100000 in
theorem c_State_faceOf (l : Launch) (D : va_G) (ct : Nat → ClassId) (p1 : Int32) (i_p1 : iv p1 0 7) : cP l yX8_faceOf wsX8_faceOf rm_State_faceOf D ct [] [.int p1] (fun r : Int32 => iv r 8 15) := by
  refine cP_of (cc := cX8_faceOf) (maxL := 1) (by decide) rfl (Nat.le_of_ble_eq_true rfl) ?_
  intro p e s m args below meth c Q hx hb hml hts hown hK hP hE ls hl
  have hl : lv_has ls 1 [(0, .int p1)] := hl
  refine lv_bipush (v := 8) hx hb dX8_faceOf_0 (by decide) ?_
  refine lv_iload_n hx hb dX8_faceOf_2 rfl (lv_at hl 0 rfl) ?_
  refine lv_iadd hx hb dX8_faceOf_3 ?_
  refine lv_topi (fun x1 ex1 => ?_)
  have i_x1 : iv x1 8 15 := iv_add ex1 (iv_lit (8 : Int32) (by decide) : iv (8 : Int32) 8 8) i_p1 (by decide) (by decide) (by decide) (by decide)
  exact hE _ _ _ i_x1 dX8_faceOf_4
abbrev rm_State_unlikeness : Room := { frames := 1, cells := 0, slots := 0, locals := 21 }
set_option maxHeartbeats 4000000 in
set_option maxRecDepth 100000 in
theorem c_State_unlikeness (l : Launch) (D : va_G) (ct : Nat → ClassId) (q_this q_this_jaw q_this_brow q_this_stone q_this_age q_this_family q_this_seat : Nat) (x_this_gargoyles x_this_people x_this_year : Int32) (f_this_jaw f_this_brow f_this_stone f_this_age f_this_family f_this_seat : Nat → Int32) (p1 p2 : Int32) (i_x_this_gargoyles : iv x_this_gargoyles 0 8) (i_x_this_people : iv x_this_people 0 8) (i_x_this_year : iv x_this_year 0 5000) (a_f_this_seat : av f_this_seat 8 (-1) 7) (i_p1 : iv p1 0 15) (i_p2 : iv p2 0 15) : cP l yX8_unlikeness wsX8_unlikeness rm_State_unlikeness D ct [(q_this, .inr (8, [.int x_this_gargoyles, .int x_this_people, .int x_this_year, .ref q_this_jaw, .ref q_this_brow, .ref q_this_stone, .ref q_this_age, .ref q_this_family, .ref q_this_seat])), (q_this_jaw, .inl (ct 0, 16, .inl f_this_jaw)), (q_this_brow, .inl (ct 0, 16, .inl f_this_brow)), (q_this_stone, .inl (ct 0, 8, .inl f_this_stone)), (q_this_age, .inl (ct 0, 8, .inl f_this_age)), (q_this_family, .inl (ct 0, 8, .inl f_this_family)), (q_this_seat, .inl (ct 0, 8, .inl f_this_seat))] [.ref q_this, .int p1, .int p2] (fun r : Int32 => True) := by
  refine cP_of (cc := cX8_unlikeness) (maxL := 3) (by decide) rfl (Nat.le_of_ble_eq_true rfl) ?_
  intro p e s m args below meth c Q hx hb hml hts hown hK hP hE ls hl
  have hl : lv_has ls 3 [(0, .ref q_this), (1, .int p1), (2, .int p2)] := hl
  have hin_State : ∀ w ∈ u_ws RX8 TX8 9, w ∈ wsX8_unlikeness := by decide +kernel
  refine lv_aload_n hx hb dX8_unlikeness_0 rfl (lv_at hl 0 rfl) ?_
  refine va_get (D := D) (ci := 8) (v := .ref q_this_jaw) (C := RX8) (T := TX8) (N := 9) hx hb hts hin_State hown hK hP 0 rfl rfl 3 (by decide) (hts (.fieldLink RX8 9 "GutterSeats$State" "jaw" "[I") (by decide +kernel)) (fun _ h9 => h9) rfl dX8_unlikeness_1 ?_
  refine lv_iload_n hx hb dX8_unlikeness_4 rfl (lv_at hl 1 rfl) ?_
  have n1 : vp_in p1 16 := iv_in i_p1 (by decide) (by decide)
  refine va_iald hx hb hK hP 1 0 rfl rfl n1 dX8_unlikeness_5 ?_
  refine lv_topi (fun x2 ex2 => ?_)
  refine lv_aload_n hx hb dX8_unlikeness_6 rfl (lv_at hl 0 rfl) ?_
  refine va_get (D := D) (ci := 8) (v := .ref q_this_jaw) (C := RX8) (T := TX8) (N := 9) hx hb hts hin_State hown hK hP 0 rfl rfl 3 (by decide) (hts (.fieldLink RX8 9 "GutterSeats$State" "jaw" "[I") (by decide +kernel)) (fun _ h9 => h9) rfl dX8_unlikeness_7 ?_
  refine lv_iload_n hx hb dX8_unlikeness_10 rfl (lv_at hl 2 rfl) ?_
  have n3 : vp_in p2 16 := iv_in i_p2 (by decide) (by decide)
  refine va_iald hx hb hK hP 1 0 rfl rfl n3 dX8_unlikeness_11 ?_
  refine lv_topi (fun x4 ex4 => ?_)
  refine lv_isub hx hb dX8_unlikeness_12 ?_
  refine lv_topi (fun x5 ex5 => ?_)
  refine va_mabs hx hb (by rw [hml]; exact hl.1.symm) hown (hts (.methodLink RX8 46 Lib.Math.abs.name) (by decide +kernel)) (hts (.static Lib.Math.abs.name) (by decide +kernel)) (hts (.initialized "java/lang/Math") (by decide +kernel)) (hts (.code Lib.Math.abs.name Lib.Math.abs.code 1 (some .int)) (by decide +kernel)) (Nat.le_of_ble_eq_true rfl) (Nat.le_of_ble_eq_true rfl) (Nat.le_of_ble_eq_true rfl) (Nat.le_of_ble_eq_true rfl) dX8_unlikeness_13 ?_
  refine lv_topi (fun x6 ex6 => ?_)
  refine lv_aload_n hx hb dX8_unlikeness_16 rfl (lv_at hl 0 rfl) ?_
  refine va_get (D := D) (ci := 8) (v := .ref q_this_brow) (C := RX8) (T := TX8) (N := 9) hx hb hts hin_State hown hK hP 0 rfl rfl 4 (by decide) (hts (.fieldLink RX8 15 "GutterSeats$State" "brow" "[I") (by decide +kernel)) (fun _ h9 => h9) rfl dX8_unlikeness_17 ?_
  refine lv_iload_n hx hb dX8_unlikeness_20 rfl (lv_at hl 1 rfl) ?_
  have n7 : vp_in p1 16 := iv_in i_p1 (by decide) (by decide)
  refine va_iald hx hb hK hP 2 0 rfl rfl n7 dX8_unlikeness_21 ?_
  refine lv_topi (fun x8 ex8 => ?_)
  refine lv_aload_n hx hb dX8_unlikeness_22 rfl (lv_at hl 0 rfl) ?_
  refine va_get (D := D) (ci := 8) (v := .ref q_this_brow) (C := RX8) (T := TX8) (N := 9) hx hb hts hin_State hown hK hP 0 rfl rfl 4 (by decide) (hts (.fieldLink RX8 15 "GutterSeats$State" "brow" "[I") (by decide +kernel)) (fun _ h9 => h9) rfl dX8_unlikeness_23 ?_
  refine lv_iload_n hx hb dX8_unlikeness_26 rfl (lv_at hl 2 rfl) ?_
  have n9 : vp_in p2 16 := iv_in i_p2 (by decide) (by decide)
  refine va_iald hx hb hK hP 2 0 rfl rfl n9 dX8_unlikeness_27 ?_
  refine lv_topi (fun x10 ex10 => ?_)
  refine lv_isub hx hb dX8_unlikeness_28 ?_
  refine lv_topi (fun x11 ex11 => ?_)
  refine va_mabs hx hb (by rw [hml]; exact hl.1.symm) hown (hts (.methodLink RX8 46 Lib.Math.abs.name) (by decide +kernel)) (hts (.static Lib.Math.abs.name) (by decide +kernel)) (hts (.initialized "java/lang/Math") (by decide +kernel)) (hts (.code Lib.Math.abs.name Lib.Math.abs.code 1 (some .int)) (by decide +kernel)) (Nat.le_of_ble_eq_true rfl) (Nat.le_of_ble_eq_true rfl) (Nat.le_of_ble_eq_true rfl) (Nat.le_of_ble_eq_true rfl) dX8_unlikeness_29 ?_
  refine lv_topi (fun x12 ex12 => ?_)
  refine lv_iadd hx hb dX8_unlikeness_32 ?_
  refine lv_topi (fun x13 ex13 => ?_)
  exact hE _ _ _ trivial dX8_unlikeness_33
abbrev rm_State_closest : Room := { frames := 2, cells := 0, slots := 0, locals := 43 }
set_option maxHeartbeats 4000000 in
set_option maxRecDepth 100000 in
theorem c_State_closest (l : Launch) (D : va_G) (ct : Nat → ClassId) (q_this q_this_jaw q_this_brow q_this_stone q_this_age q_this_family q_this_seat : Nat) (x_this_gargoyles x_this_people x_this_year : Int32) (f_this_jaw f_this_brow f_this_stone f_this_age f_this_family f_this_seat : Nat → Int32) (p1 p2 : Int32) (i_x_this_gargoyles : iv x_this_gargoyles 0 8) (i_x_this_people : iv x_this_people 0 8) (i_x_this_year : iv x_this_year 0 5000) (a_f_this_seat : av f_this_seat 8 (-1) 7) (i_p1 : iv p1 0 7) : cP l yX8_closest wsX8_closest rm_State_closest D ct [(q_this, .inr (8, [.int x_this_gargoyles, .int x_this_people, .int x_this_year, .ref q_this_jaw, .ref q_this_brow, .ref q_this_stone, .ref q_this_age, .ref q_this_family, .ref q_this_seat])), (q_this_jaw, .inl (ct 0, 16, .inl f_this_jaw)), (q_this_brow, .inl (ct 0, 16, .inl f_this_brow)), (q_this_stone, .inl (ct 0, 8, .inl f_this_stone)), (q_this_age, .inl (ct 0, 8, .inl f_this_age)), (q_this_family, .inl (ct 0, 8, .inl f_this_family)), (q_this_seat, .inl (ct 0, 8, .inl f_this_seat))] [.ref q_this, .int p1, .int p2] (fun r : Int32 => iv r (-1) 7) := by
  refine cP_of (cc := cX8_closest) (maxL := 8) (by decide) rfl (Nat.le_of_ble_eq_true rfl) ?_
  intro p e s m args below meth c Q hx hb hml hts hown hK hP hE ls hl
  have hl : lv_has ls 8 [(0, .ref q_this), (1, .int p1), (2, .int p2)] := hl
  have hin_State : ∀ w ∈ u_ws RX8 TX8 9, w ∈ wsX8_closest := by decide +kernel
  have K8 : ∀ (n8 : Nat) (v3c8 v4c8 v5c8 : Int32) (ls : Array Slot), iv v3c8 (-1) 7 → iv v5c8 0 8 → (8 - v5c8.toInt).toNat < n8 → lv_has ls 8 [(0, .ref q_this), (1, .int p1), (2, .int p2), (3, .int v3c8), (4, .int v4c8), (5, .int v5c8)] → W p l e rm_State_closest s m args below meth c s.heap [] 0 0 Q (F0 m 8 ls []) := by
    intro n8
    induction n8 with
    | zero => intro v3c8 v4c8 v5c8 ls i_v3c8 i_v5c8 hm8 hl; exact absurd hm8 (Nat.not_lt_zero _)
    | succ n8 ih8 =>
      intro v3c8 v4c8 v5c8 ls i_v3c8 i_v5c8 hm8 hl
      have K69 : ∀ (v3c69 v4c69 v5c69 : Int32) (ls : Array Slot), iv v3c69 (-1) 7 → iv v5c69 0 7 → (8 - v5c69.toInt).toNat < n8 + 1 → lv_has ls 8 [(0, .ref q_this), (1, .int p1), (2, .int p2), (3, .int v3c69), (4, .int v4c69), (5, .int v5c69)] → W p l e rm_State_closest s m args below meth c s.heap [] 0 0 Q (F0 m 69 ls []) := by
        intro v3c69 v4c69 v5c69 ls i_v3c69 i_v5c69 hm8 hl
        obtain ⟨x1, ex1⟩ : ∃ z : Int32, z = v5c69 + (1 : Int32) := ⟨_, rfl⟩
        refine lv_iinc (v := x1) (lv' := [(5, .int x1), (0, .ref q_this), (1, .int p1), (2, .int p2), (3, .int v3c69), (4, .int v4c69)]) hx hb dX8_closest_69 hl (k := 5) rfl (by rw [ex1]; rfl) (by decide) rfl (fun ls hl => ?_)
        have i_x1 : iv x1 1 8 := iv_add ex1 i_v5c69 (iv_lit (1 : Int32) (by decide) : iv (1 : Int32) 1 1) (by decide) (by decide) (by decide) (by decide)
        refine lv_goto (tgt := 8) hx hb dX8_closest_72 (by decide) ?_
        exact ih8 v3c69 v4c69 x1 ls i_v3c69 (iv_w i_x1 (by decide) (by decide)) (ms_up ex1 i_v5c69 (by decide) (by decide) hm8) (lv_sub hl [1, 2, 3, 4, 5, 0] rfl)
      have K62 : ∀ (v5c62 v6c62 : Int32) (ls : Array Slot), iv v5c62 0 7 → (8 - v5c62.toInt).toNat < n8 + 1 → lv_has ls 8 [(0, .ref q_this), (1, .int p1), (2, .int p2), (5, .int v5c62), (6, .int v6c62)] → W p l e rm_State_closest s m args below meth c s.heap [] 0 0 Q (F0 m 62 ls []) := by
        intro v5c62 v6c62 ls i_v5c62 hm8 hl
        refine lv_iload hx hb dX8_closest_62 (lv_at hl 3 rfl) ?_
        refine lv_istore_n (lv' := [(3, .int v5c62), (0, .ref q_this), (1, .int p1), (2, .int p2), (5, .int v5c62), (6, .int v6c62)]) hx hb dX8_closest_64 rfl hl (by decide) rfl (fun ls hl => ?_)
        refine lv_iload hx hb dX8_closest_65 (lv_at hl 5 rfl) ?_
        refine lv_istore (lv' := [(4, .int v6c62), (3, .int v5c62), (0, .ref q_this), (1, .int p1), (2, .int p2), (5, .int v5c62), (6, .int v6c62)]) hx hb dX8_closest_67 hl (by decide) rfl (fun ls hl => ?_)
        exact K69 v5c62 v6c62 v5c62 ls (iv_w i_v5c62 (by decide) (by decide)) i_v5c62 hm8 (lv_sub hl [2, 3, 4, 1, 0, 5] rfl)
      have K43 : ∀ (v3c43 v4c43 v5c43 v6c43 s0c43 : Int32) (ls : Array Slot), iv v3c43 (-1) 7 → iv v5c43 0 7 → iv s0c43 0 1 → (8 - v5c43.toInt).toNat < n8 + 1 → lv_has ls 8 [(0, .ref q_this), (1, .int p1), (2, .int p2), (3, .int v3c43), (4, .int v4c43), (5, .int v5c43), (6, .int v6c43)] → W p l e rm_State_closest s m args below meth c s.heap [] 0 0 Q (F0 m 43 ls [.int s0c43]) := by
        intro v3c43 v4c43 v5c43 v6c43 s0c43 ls i_v3c43 i_v5c43 i_s0c43 hm8 hl
        refine lv_istore (lv' := [(7, .int s0c43), (0, .ref q_this), (1, .int p1), (2, .int p2), (3, .int v3c43), (4, .int v4c43), (5, .int v5c43), (6, .int v6c43)]) hx hb dX8_closest_43 hl (by decide) rfl (fun ls hl => ?_)
        refine lv_iload hx hb dX8_closest_45 (lv_at hl 0 rfl) ?_
        refine lv_if_eq (tgt := 69) hx hb dX8_closest_47 (by decide) (fun c2 => ?_) (fun c2 => ?_)
        ·
          have j3 : iv s0c43 0 0 := by rw [c2]; exact (iv_lit (0 : Int32) (by decide) : iv (0 : Int32) 0 0)
          exact K69 v3c43 v4c43 v5c43 ls i_v3c43 i_v5c43 hm8 (lv_sub hl [1, 2, 3, 4, 5, 6] rfl)
        ·
          have j4 : iv s0c43 1 1 := iv_neL c2 i_s0c43 rfl (by decide)
          refine lv_iload_n hx hb dX8_closest_50 rfl (lv_at hl 4 rfl) ?_
          refine lv_iconst (v := -1) hx hb dX8_closest_51 (by decide) ?_
          refine lv_icmp_eq (tgt := 62) hx hb dX8_closest_52 (by decide) (fun c5 => ?_) (fun c5 => ?_)
          ·
            have j6 : iv v3c43 (-1) (-1) := by rw [c5]; exact (iv_lit (-1 : Int32) (by decide) : iv (-1 : Int32) (-1) (-1))
            exact K62 v5c43 v6c43 ls i_v5c43 hm8 (lv_sub hl [1, 2, 3, 6, 7] rfl)
          ·
            have j7 : iv v3c43 0 7 := iv_neL c5 i_v3c43 rfl (by decide)
            refine lv_iload hx hb dX8_closest_55 (lv_at hl 7 rfl) ?_
            refine lv_iload hx hb dX8_closest_57 (lv_at hl 5 rfl) ?_
            refine lv_icmp_ge (tgt := 69) hx hb dX8_closest_59 (by decide) (fun c8 => ?_) (fun c8 => ?_)
            ·
              exact K69 v3c43 v4c43 v5c43 ls (iv_w j7 (by decide) (by decide)) i_v5c43 hm8 (lv_sub hl [1, 2, 3, 4, 5, 6] rfl)
            ·
              have j9 : iv v6c43 (-2147483648) 2147483646 := iv_ltL (iv_nle c8) (iv_any _) (iv_any _) (by decide)
              have j10 : iv v4c43 (-2147483647) 2147483647 := iv_ltR (iv_nle c8) (iv_any _) (iv_any _) (by decide)
              exact K62 v5c43 v6c43 ls i_v5c43 hm8 (lv_sub hl [1, 2, 3, 6, 7] rfl)
      refine lv_iload hx hb dX8_closest_8 (lv_at hl 5 rfl) ?_
      refine lv_aload_n hx hb dX8_closest_10 rfl (lv_at hl 0 rfl) ?_
      refine va_get (D := D) (ci := 8) (v := .int x_this_gargoyles) (C := RX8) (T := TX8) (N := 9) hx hb hts hin_State hown hK hP 0 rfl rfl 0 (by decide) (hts (.fieldLink RX8 30 "GutterSeats$State" "gargoyles" "I") (by decide +kernel)) (fun _ h9 => h9) rfl dX8_closest_11 ?_
      refine lv_icmp_ge (tgt := 75) hx hb dX8_closest_14 (by decide) (fun c11 => ?_) (fun c11 => ?_)
      ·
        refine lv_iload_n hx hb dX8_closest_75 rfl (lv_at hl 3 rfl) ?_
        exact hE _ _ _ i_v3c8 dX8_closest_76
      ·
        have j12 : iv v5c8 0 7 := iv_ltL (iv_nle c11) i_v5c8 i_x_this_gargoyles (by decide)
        have j13 : iv x_this_gargoyles 1 8 := iv_ltR (iv_nle c11) i_v5c8 i_x_this_gargoyles (by decide)
        refine lv_aload_n hx hb dX8_closest_17 rfl (lv_at hl 0 rfl) ?_
        refine lv_iload_n hx hb dX8_closest_18 rfl (lv_at hl 1 rfl) ?_
        refine kPS (rest := [.ref q_this]) ⟨hx, hb, hml, hown, hts⟩ (c_State_faceOf l D ct p1 i_p1) (va_cwS 1 hts gX8_closest_X8_faceOf rfl rfl rfl (by decide +kernel) ⟨(Nat.le_of_ble_eq_true rfl), (Nat.le_of_ble_eq_true rfl)⟩) hK hP [] rfl rfl hl.1 rfl (Nat.le_of_ble_eq_true rfl) dX8_closest_19 ⟨(Nat.le_of_ble_eq_true rfl), (Nat.le_of_ble_eq_true rfl)⟩ (fun r14 hr14 => ?_)
        have i_r14 : iv r14 8 15 := hr14
        refine lv_iload hx hb dX8_closest_22 (lv_at hl 5 rfl) ?_
        refine kPV (rest := []) (ci := 8) ⟨hx, hb, hml, hown, hts⟩ (c_State_unlikeness l D ct q_this q_this_jaw q_this_brow q_this_stone q_this_age q_this_family q_this_seat x_this_gargoyles x_this_people x_this_year f_this_jaw f_this_brow f_this_stone f_this_age f_this_family f_this_seat r14 v5c8 (iv_w j13 (by decide) (by decide)) i_x_this_people i_x_this_year a_f_this_seat (iv_w i_r14 (by decide) (by decide)) (iv_w j12 (by decide) (by decide))) (cwV 2 hts gX8_closest_X8_unlikeness rfl rfl rfl (by decide +kernel) ⟨(Nat.le_of_ble_eq_true rfl), (Nat.le_of_ble_eq_true rfl)⟩) hK hP [0, 1, 2, 3, 4, 5, 6] rfl rfl rfl rfl rfl hl.1 rfl (Nat.le_of_ble_eq_true rfl) dX8_closest_24 ⟨(Nat.le_of_ble_eq_true rfl), (Nat.le_of_ble_eq_true rfl)⟩ (fun r15 hr15 => ?_)
        refine lv_istore (lv' := [(6, .int r15), (0, .ref q_this), (1, .int p1), (2, .int p2), (3, .int v3c8), (4, .int v4c8), (5, .int v5c8)]) hx hb dX8_closest_27 hl (by decide) rfl (fun ls hl => ?_)
        refine lv_iload_n hx hb dX8_closest_29 rfl (lv_at hl 3 rfl) ?_
        refine lv_iload hx hb dX8_closest_30 (lv_at hl 6 rfl) ?_
        refine lv_ishr hx hb dX8_closest_32 ?_
        refine lv_topi (fun x16 ex16 => ?_)
        refine lv_iconst (v := 1) hx hb dX8_closest_33 (by decide) ?_
        refine lv_iand hx hb dX8_closest_34 ?_
        refine lv_topi (fun x17 ex17 => ?_)
        have i_x17 : iv x17 0 1 := iv_and ex17 (iv_lit (1 : Int32) (by decide) : iv (1 : Int32) 1 1) (by decide)
        refine lv_if_ne (tgt := 42) hx hb dX8_closest_35 (by decide) (fun c18 => ?_) (fun c18 => ?_)
        ·
          have j19 : iv x17 1 1 := iv_neL c18 i_x17 rfl (by decide)
          refine lv_iconst (v := 0) hx hb dX8_closest_42 (by decide) ?_
          exact K43 v3c8 v4c8 v5c8 r15 (0 : Int32) ls i_v3c8 j12 (iv_lit (0 : Int32) (by decide) : iv (0 : Int32) 0 1) hm8 (lv_sub hl [1, 2, 3, 4, 5, 6, 0] rfl)
        ·
          have j20 : iv x17 0 0 := by rw [c18]; exact (iv_lit (0 : Int32) (by decide) : iv (0 : Int32) 0 0)
          refine lv_iconst (v := 1) hx hb dX8_closest_38 (by decide) ?_
          refine lv_goto (tgt := 43) hx hb dX8_closest_39 (by decide) ?_
          exact K43 v3c8 v4c8 v5c8 r15 (1 : Int32) ls i_v3c8 j12 (iv_lit (1 : Int32) (by decide) : iv (1 : Int32) 0 1) hm8 (lv_sub hl [1, 2, 3, 4, 5, 6, 0] rfl)
  refine lv_iconst (v := -1) hx hb dX8_closest_0 (by decide) ?_
  refine lv_istore_n (lv' := [(3, .int (-1 : Int32)), (0, .ref q_this), (1, .int p1), (2, .int p2)]) hx hb dX8_closest_1 rfl hl (by decide) rfl (fun ls hl => ?_)
  refine lv_iconst (v := -1) hx hb dX8_closest_2 (by decide) ?_
  refine lv_istore (lv' := [(4, .int (-1 : Int32)), (3, .int (-1 : Int32)), (0, .ref q_this), (1, .int p1), (2, .int p2)]) hx hb dX8_closest_3 hl (by decide) rfl (fun ls hl => ?_)
  refine lv_iconst (v := 0) hx hb dX8_closest_5 (by decide) ?_
  refine lv_istore (lv' := [(5, .int (0 : Int32)), (4, .int (-1 : Int32)), (3, .int (-1 : Int32)), (0, .ref q_this), (1, .int p1), (2, .int p2)]) hx hb dX8_closest_6 hl (by decide) rfl (fun ls hl => ?_)
  exact K8 _ (-1 : Int32) (-1 : Int32) (0 : Int32) ls (iv_lit (-1 : Int32) (by decide) : iv (-1 : Int32) (-1) 7) (iv_lit (0 : Int32) (by decide) : iv (0 : Int32) 0 8) (Nat.lt_succ_self _) (lv_sub hl [3, 4, 5, 2, 1, 0] rfl)
abbrev rm_State_sitterAt : Room := { frames := 0, cells := 0, slots := 0, locals := 0 }
set_option maxHeartbeats 4000000 in
set_option maxRecDepth 100000 in
theorem c_State_sitterAt (l : Launch) (D : va_G) (ct : Nat → ClassId) (q_this q_this_jaw q_this_brow q_this_stone q_this_age q_this_family q_this_seat : Nat) (x_this_gargoyles x_this_people x_this_year : Int32) (f_this_jaw f_this_brow f_this_stone f_this_age f_this_family f_this_seat : Nat → Int32) (p1 : Int32) (i_x_this_gargoyles : iv x_this_gargoyles 0 8) (i_x_this_people : iv x_this_people 0 8) (i_x_this_year : iv x_this_year 0 5000) (a_f_this_seat : av f_this_seat 8 (-1) 7) : cP l yX8_sitterAt wsX8_sitterAt rm_State_sitterAt D ct [(q_this, .inr (8, [.int x_this_gargoyles, .int x_this_people, .int x_this_year, .ref q_this_jaw, .ref q_this_brow, .ref q_this_stone, .ref q_this_age, .ref q_this_family, .ref q_this_seat])), (q_this_jaw, .inl (ct 0, 16, .inl f_this_jaw)), (q_this_brow, .inl (ct 0, 16, .inl f_this_brow)), (q_this_stone, .inl (ct 0, 8, .inl f_this_stone)), (q_this_age, .inl (ct 0, 8, .inl f_this_age)), (q_this_family, .inl (ct 0, 8, .inl f_this_family)), (q_this_seat, .inl (ct 0, 8, .inl f_this_seat))] [.ref q_this, .int p1] (fun r : Int32 => iv r (-1) 7) := by
  refine cP_of (cc := cX8_sitterAt) (maxL := 3) (by decide) rfl (Nat.le_of_ble_eq_true rfl) ?_
  intro p e s m args below meth c Q hx hb hml hts hown hK hP hE ls hl
  have hl : lv_has ls 3 [(0, .ref q_this), (1, .int p1)] := hl
  have hin_State : ∀ w ∈ u_ws RX8 TX8 9, w ∈ wsX8_sitterAt := by decide +kernel
  have K2 : ∀ (n2 : Nat) (v2c2 : Int32) (ls : Array Slot), iv v2c2 0 8 → (8 - v2c2.toInt).toNat < n2 → lv_has ls 3 [(0, .ref q_this), (1, .int p1), (2, .int v2c2)] → W p l e rm_State_sitterAt s m args below meth c s.heap [] 0 0 Q (F0 m 2 ls []) := by
    intro n2
    induction n2 with
    | zero => intro v2c2 ls i_v2c2 hm2 hl; exact absurd hm2 (Nat.not_lt_zero _)
    | succ n2 ih2 =>
      intro v2c2 ls i_v2c2 hm2 hl
      refine lv_iload_n hx hb dX8_sitterAt_2 rfl (lv_at hl 2 rfl) ?_
      refine lv_aload_n hx hb dX8_sitterAt_3 rfl (lv_at hl 0 rfl) ?_
      refine va_get (D := D) (ci := 8) (v := .int x_this_people) (C := RX8) (T := TX8) (N := 9) hx hb hts hin_State hown hK hP 0 rfl rfl 1 (by decide) (hts (.fieldLink RX8 34 "GutterSeats$State" "people" "I") (by decide +kernel)) (fun _ h9 => h9) rfl dX8_sitterAt_4 ?_
      refine lv_icmp_ge (tgt := 28) hx hb dX8_sitterAt_7 (by decide) (fun c1 => ?_) (fun c1 => ?_)
      ·
        refine lv_iconst (v := -1) hx hb dX8_sitterAt_28 (by decide) ?_
        exact hE _ _ _ (iv_lit (-1 : Int32) (by decide) : iv (-1 : Int32) (-1) 7) dX8_sitterAt_29
      ·
        have j2 : iv v2c2 0 7 := iv_ltL (iv_nle c1) i_v2c2 i_x_this_people (by decide)
        have j3 : iv x_this_people 1 8 := iv_ltR (iv_nle c1) i_v2c2 i_x_this_people (by decide)
        refine lv_aload_n hx hb dX8_sitterAt_10 rfl (lv_at hl 0 rfl) ?_
        refine va_get (D := D) (ci := 8) (v := .ref q_this_seat) (C := RX8) (T := TX8) (N := 9) hx hb hts hin_State hown hK hP 0 rfl rfl 8 (by decide) (hts (.fieldLink RX8 27 "GutterSeats$State" "seat" "[I") (by decide +kernel)) (fun _ h9 => h9) rfl dX8_sitterAt_11 ?_
        refine lv_iload_n hx hb dX8_sitterAt_14 rfl (lv_at hl 2 rfl) ?_
        have n4 : vp_in v2c2 8 := iv_in j2 (by decide) (by decide)
        refine va_iald hx hb hK hP 6 0 rfl rfl n4 dX8_sitterAt_15 ?_
        refine lv_topi (fun x5 ex5 => ?_)
        have i_x5 : iv x5 (-1) 7 := by rw [ex5]; exact av_get a_f_this_seat n4
        refine lv_iload_n hx hb dX8_sitterAt_16 rfl (lv_at hl 1 rfl) ?_
        refine lv_icmp_ne (tgt := 22) hx hb dX8_sitterAt_17 (by decide) (fun c6 => ?_) (fun c6 => ?_)
        ·
          obtain ⟨x7, ex7⟩ : ∃ z : Int32, z = v2c2 + (1 : Int32) := ⟨_, rfl⟩
          refine lv_iinc (v := x7) (lv' := [(2, .int x7), (0, .ref q_this), (1, .int p1)]) hx hb dX8_sitterAt_22 hl (k := 2) rfl (by rw [ex7]; rfl) (by decide) rfl (fun ls hl => ?_)
          have i_x7 : iv x7 1 8 := iv_add ex7 j2 (iv_lit (1 : Int32) (by decide) : iv (1 : Int32) 1 1) (by decide) (by decide) (by decide) (by decide)
          refine lv_goto (tgt := 2) hx hb dX8_sitterAt_25 (by decide) ?_
          exact ih2 x7 ls (iv_w i_x7 (by decide) (by decide)) (ms_up ex7 j2 (by decide) (by decide) hm2) (lv_sub hl [1, 2, 0] rfl)
        ·
          have j8 : iv p1 (-1) 7 := by rw [← c6]; exact i_x5
          refine lv_iload_n hx hb dX8_sitterAt_20 rfl (lv_at hl 2 rfl) ?_
          exact hE _ _ _ (iv_w j2 (by decide) (by decide)) dX8_sitterAt_21
  refine lv_iconst (v := 0) hx hb dX8_sitterAt_0 (by decide) ?_
  refine lv_istore_n (lv' := [(2, .int (0 : Int32)), (0, .ref q_this), (1, .int p1)]) hx hb dX8_sitterAt_1 rfl hl (by decide) rfl (fun ls hl => ?_)
  exact K2 _ (0 : Int32) ls (iv_lit (0 : Int32) (by decide) : iv (0 : Int32) 0 8) (Nat.lt_succ_self _) (lv_sub hl [1, 2, 0] rfl)
abbrev rm_State_takenBits : Room := { frames := 0, cells := 0, slots := 0, locals := 0 }
set_option maxHeartbeats 4000000 in
set_option maxRecDepth 100000 in
theorem c_State_takenBits (l : Launch) (D : va_G) (ct : Nat → ClassId) (q_this q_this_jaw q_this_brow q_this_stone q_this_age q_this_family q_this_seat : Nat) (x_this_gargoyles x_this_people x_this_year : Int32) (f_this_jaw f_this_brow f_this_stone f_this_age f_this_family f_this_seat : Nat → Int32) (i_x_this_gargoyles : iv x_this_gargoyles 0 8) (i_x_this_people : iv x_this_people 0 8) (i_x_this_year : iv x_this_year 0 5000) (a_f_this_seat : av f_this_seat 8 (-1) 7) : cP l yX8_takenBits wsX8_takenBits rm_State_takenBits D ct [(q_this, .inr (8, [.int x_this_gargoyles, .int x_this_people, .int x_this_year, .ref q_this_jaw, .ref q_this_brow, .ref q_this_stone, .ref q_this_age, .ref q_this_family, .ref q_this_seat])), (q_this_jaw, .inl (ct 0, 16, .inl f_this_jaw)), (q_this_brow, .inl (ct 0, 16, .inl f_this_brow)), (q_this_stone, .inl (ct 0, 8, .inl f_this_stone)), (q_this_age, .inl (ct 0, 8, .inl f_this_age)), (q_this_family, .inl (ct 0, 8, .inl f_this_family)), (q_this_seat, .inl (ct 0, 8, .inl f_this_seat))] [.ref q_this] (fun r : Int32 => True) := by
  refine cP_of (cc := cX8_takenBits) (maxL := 3) (by decide) rfl (Nat.le_of_ble_eq_true rfl) ?_
  intro p e s m args below meth c Q hx hb hml hts hown hK hP hE ls hl
  have hl : lv_has ls 3 [(0, .ref q_this)] := hl
  have hin_State : ∀ w ∈ u_ws RX8 TX8 9, w ∈ wsX8_takenBits := by decide +kernel
  have K4 : ∀ (n4 : Nat) (v1c4 v2c4 : Int32) (ls : Array Slot), iv v2c4 0 8 → (8 - v2c4.toInt).toNat < n4 → lv_has ls 3 [(0, .ref q_this), (1, .int v1c4), (2, .int v2c4)] → W p l e rm_State_takenBits s m args below meth c s.heap [] 0 0 Q (F0 m 4 ls []) := by
    intro n4
    induction n4 with
    | zero => intro v1c4 v2c4 ls i_v2c4 hm4 hl; exact absurd hm4 (Nat.not_lt_zero _)
    | succ n4 ih4 =>
      intro v1c4 v2c4 ls i_v2c4 hm4 hl
      have K33 : ∀ (v1c33 v2c33 : Int32) (ls : Array Slot), iv v2c33 0 7 → (8 - v2c33.toInt).toNat < n4 + 1 → lv_has ls 3 [(0, .ref q_this), (1, .int v1c33), (2, .int v2c33)] → W p l e rm_State_takenBits s m args below meth c s.heap [] 0 0 Q (F0 m 33 ls []) := by
        intro v1c33 v2c33 ls i_v2c33 hm4 hl
        obtain ⟨x1, ex1⟩ : ∃ z : Int32, z = v2c33 + (1 : Int32) := ⟨_, rfl⟩
        refine lv_iinc (v := x1) (lv' := [(2, .int x1), (0, .ref q_this), (1, .int v1c33)]) hx hb dX8_takenBits_33 hl (k := 2) rfl (by rw [ex1]; rfl) (by decide) rfl (fun ls hl => ?_)
        have i_x1 : iv x1 1 8 := iv_add ex1 i_v2c33 (iv_lit (1 : Int32) (by decide) : iv (1 : Int32) 1 1) (by decide) (by decide) (by decide) (by decide)
        refine lv_goto (tgt := 4) hx hb dX8_takenBits_36 (by decide) ?_
        exact ih4 v1c33 x1 ls (iv_w i_x1 (by decide) (by decide)) (ms_up ex1 i_v2c33 (by decide) (by decide) hm4) (lv_sub hl [1, 2, 0] rfl)
      refine lv_iload_n hx hb dX8_takenBits_4 rfl (lv_at hl 2 rfl) ?_
      refine lv_aload_n hx hb dX8_takenBits_5 rfl (lv_at hl 0 rfl) ?_
      refine va_get (D := D) (ci := 8) (v := .int x_this_people) (C := RX8) (T := TX8) (N := 9) hx hb hts hin_State hown hK hP 0 rfl rfl 1 (by decide) (hts (.fieldLink RX8 34 "GutterSeats$State" "people" "I") (by decide +kernel)) (fun _ h9 => h9) rfl dX8_takenBits_6 ?_
      refine lv_icmp_ge (tgt := 39) hx hb dX8_takenBits_9 (by decide) (fun c2 => ?_) (fun c2 => ?_)
      ·
        refine lv_iload_n hx hb dX8_takenBits_39 rfl (lv_at hl 1 rfl) ?_
        exact hE _ _ _ trivial dX8_takenBits_40
      ·
        have j3 : iv v2c4 0 7 := iv_ltL (iv_nle c2) i_v2c4 i_x_this_people (by decide)
        have j4 : iv x_this_people 1 8 := iv_ltR (iv_nle c2) i_v2c4 i_x_this_people (by decide)
        refine lv_aload_n hx hb dX8_takenBits_12 rfl (lv_at hl 0 rfl) ?_
        refine va_get (D := D) (ci := 8) (v := .ref q_this_seat) (C := RX8) (T := TX8) (N := 9) hx hb hts hin_State hown hK hP 0 rfl rfl 8 (by decide) (hts (.fieldLink RX8 27 "GutterSeats$State" "seat" "[I") (by decide +kernel)) (fun _ h9 => h9) rfl dX8_takenBits_13 ?_
        refine lv_iload_n hx hb dX8_takenBits_16 rfl (lv_at hl 2 rfl) ?_
        have n5 : vp_in v2c4 8 := iv_in j3 (by decide) (by decide)
        refine va_iald hx hb hK hP 6 0 rfl rfl n5 dX8_takenBits_17 ?_
        refine lv_topi (fun x6 ex6 => ?_)
        have i_x6 : iv x6 (-1) 7 := by rw [ex6]; exact av_get a_f_this_seat n5
        refine lv_iconst (v := -1) hx hb dX8_takenBits_18 (by decide) ?_
        refine lv_icmp_eq (tgt := 33) hx hb dX8_takenBits_19 (by decide) (fun c7 => ?_) (fun c7 => ?_)
        ·
          have j8 : iv x6 (-1) (-1) := by rw [c7]; exact (iv_lit (-1 : Int32) (by decide) : iv (-1 : Int32) (-1) (-1))
          exact K33 v1c4 v2c4 ls j3 hm4 (lv_sub hl [0, 1, 2] rfl)
        ·
          have j9 : iv x6 0 7 := iv_neL c7 i_x6 rfl (by decide)
          refine lv_iload_n hx hb dX8_takenBits_22 rfl (lv_at hl 1 rfl) ?_
          refine lv_iconst (v := 1) hx hb dX8_takenBits_23 (by decide) ?_
          refine lv_aload_n hx hb dX8_takenBits_24 rfl (lv_at hl 0 rfl) ?_
          refine va_get (D := D) (ci := 8) (v := .ref q_this_seat) (C := RX8) (T := TX8) (N := 9) hx hb hts hin_State hown hK hP 0 rfl rfl 8 (by decide) (hts (.fieldLink RX8 27 "GutterSeats$State" "seat" "[I") (by decide +kernel)) (fun _ h9 => h9) rfl dX8_takenBits_25 ?_
          refine lv_iload_n hx hb dX8_takenBits_28 rfl (lv_at hl 2 rfl) ?_
          have n10 : vp_in v2c4 8 := iv_in j3 (by decide) (by decide)
          refine va_iald hx hb hK hP 6 0 rfl rfl n10 dX8_takenBits_29 ?_
          refine lv_topi (fun x11 ex11 => ?_)
          have i_x11 : iv x11 (-1) 7 := by rw [ex11]; exact av_get a_f_this_seat n10
          refine lv_ishl hx hb dX8_takenBits_30 ?_
          refine lv_topi (fun x12 ex12 => ?_)
          refine lv_ior hx hb dX8_takenBits_31 ?_
          refine lv_topi (fun x13 ex13 => ?_)
          refine lv_istore_n (lv' := [(1, .int x13), (0, .ref q_this), (2, .int v2c4)]) hx hb dX8_takenBits_32 rfl hl (by decide) rfl (fun ls hl => ?_)
          exact K33 x13 v2c4 ls j3 hm4 (lv_sub hl [1, 0, 2] rfl)
  refine lv_iconst (v := 0) hx hb dX8_takenBits_0 (by decide) ?_
  refine lv_istore_n (lv' := [(1, .int (0 : Int32)), (0, .ref q_this)]) hx hb dX8_takenBits_1 rfl hl (by decide) rfl (fun ls hl => ?_)
  refine lv_iconst (v := 0) hx hb dX8_takenBits_2 (by decide) ?_
  refine lv_istore_n (lv' := [(2, .int (0 : Int32)), (1, .int (0 : Int32)), (0, .ref q_this)]) hx hb dX8_takenBits_3 rfl hl (by decide) rfl (fun ls hl => ?_)
  exact K4 _ (0 : Int32) (0 : Int32) ls (iv_lit (0 : Int32) (by decide) : iv (0 : Int32) 0 8) (Nat.lt_succ_self _) (lv_sub hl [2, 1, 0] rfl)
abbrev rm_State_setFace : Room := { frames := 0, cells := 0, slots := 0, locals := 0 }
set_option maxHeartbeats 4000000 in
set_option maxRecDepth 100000 in
theorem c_State_setFace (l : Launch) (D : va_G) (ct : Nat → ClassId) (q_this q_this_jaw q_this_brow q_this_stone q_this_age q_this_family q_this_seat : Nat) (sz : Nat) (x_this_gargoyles x_this_people x_this_year : Int32) (f_this_jaw f_this_brow f_this_stone f_this_age f_this_family f_this_seat : Nat → Int32) (p1 p2 p3 : Int32) (i_x_this_gargoyles : iv x_this_gargoyles 0 8) (i_x_this_people : iv x_this_people 0 8) (i_x_this_year : iv x_this_year 0 5000) (a_f_this_seat : av f_this_seat 8 (-1) 7) (i_p1 : iv p1 0 15) : cV l yX8_setFace wsX8_setFace rm_State_setFace D ct [(q_this, .inr (8, [.int x_this_gargoyles, .int x_this_people, .int x_this_year, .ref q_this_jaw, .ref q_this_brow, .ref q_this_stone, .ref q_this_age, .ref q_this_family, .ref q_this_seat])), (q_this_jaw, .inl (ct 0, 16, .inl f_this_jaw)), (q_this_brow, .inl (ct 0, 16, .inl f_this_brow)), (q_this_stone, .inl (ct 0, 8, .inl f_this_stone)), (q_this_age, .inl (ct 0, 8, .inl f_this_age)), (q_this_family, .inl (ct 0, 8, .inl f_this_family)), (q_this_seat, .inl (ct 0, 8, .inl f_this_seat))] sz [.ref q_this, .int p1, .int p2, .int p3] (fun u : (Nat → Int32) × (Nat → Int32) => True) (fun u : (Nat → Int32) × (Nat → Int32) => [(q_this, .inr (8, [.int x_this_gargoyles, .int x_this_people, .int x_this_year, .ref q_this_jaw, .ref q_this_brow, .ref q_this_stone, .ref q_this_age, .ref q_this_family, .ref q_this_seat])), (q_this_jaw, .inl (ct 0, 16, .inl u.1)), (q_this_brow, .inl (ct 0, 16, .inl u.2)), (q_this_stone, .inl (ct 0, 8, .inl f_this_stone)), (q_this_age, .inl (ct 0, 8, .inl f_this_age)), (q_this_family, .inl (ct 0, 8, .inl f_this_family)), (q_this_seat, .inl (ct 0, 8, .inl f_this_seat))]) := by
  refine cV_of (cc := cX8_setFace) (maxL := 4) (by decide) rfl (Nat.le_of_ble_eq_true rfl) ?_
  intro p e s m args below meth c Q A hx hb hml hts hown hK hP hD hA hAe hsz hname hE ls hl
  have hS : va_S A s.heap s.heap [] := va_S.rf
  have hP : va_P D vwCl [(q_this, .inr (8, [.int x_this_gargoyles, .int x_this_people, .int x_this_year, .ref q_this_jaw, .ref q_this_brow, .ref q_this_stone, .ref q_this_age, .ref q_this_family, .ref q_this_seat])), (q_this_jaw, .inl (ct 0, 16, .inl f_this_jaw)), (q_this_brow, .inl (ct 0, 16, .inl f_this_brow)), (q_this_stone, .inl (ct 0, 8, .inl f_this_stone)), (q_this_age, .inl (ct 0, 8, .inl f_this_age)), (q_this_family, .inl (ct 0, 8, .inl f_this_family)), (q_this_seat, .inl (ct 0, 8, .inl f_this_seat))] s.heap := hP
  have hD : va_D A [(q_this, .inr (8, [.int x_this_gargoyles, .int x_this_people, .int x_this_year, .ref q_this_jaw, .ref q_this_brow, .ref q_this_stone, .ref q_this_age, .ref q_this_family, .ref q_this_seat])), (q_this_jaw, .inl (ct 0, 16, .inl f_this_jaw)), (q_this_brow, .inl (ct 0, 16, .inl f_this_brow)), (q_this_stone, .inl (ct 0, 8, .inl f_this_stone)), (q_this_age, .inl (ct 0, 8, .inl f_this_age)), (q_this_family, .inl (ct 0, 8, .inl f_this_family)), (q_this_seat, .inl (ct 0, 8, .inl f_this_seat))] := hD
  have hl : lv_has ls 4 [(0, .ref q_this), (1, .int p1), (2, .int p2), (3, .int p3)] := hl
  have hin_State : ∀ w ∈ u_ws RX8 TX8 9, w ∈ wsX8_setFace := by decide +kernel
  refine lv_aload_n hx hb dX8_setFace_0 rfl (lv_at hl 0 rfl) ?_
  refine va_get (D := D) (ci := 8) (v := .ref q_this_jaw) (C := RX8) (T := TX8) (N := 9) hx hb hts hin_State hown hK hP 0 rfl rfl 3 (by decide) (hts (.fieldLink RX8 9 "GutterSeats$State" "jaw" "[I") (by decide +kernel)) (fun _ h9 => h9) rfl dX8_setFace_1 ?_
  refine lv_iload_n hx hb dX8_setFace_4 rfl (lv_at hl 1 rfl) ?_
  refine lv_iload_n hx hb dX8_setFace_5 rfl (lv_at hl 2 rfl) ?_
  have n1 : vp_in p1 16 := iv_in i_p1 (by decide) (by decide)
  refine va_iast hx hb hK hP hD hS 1 0 rfl rfl n1 dX8_setFace_6 (fun H locs hP hD hS => ?_)
  obtain ⟨f2, ef2⟩ : ∃ z : Nat → Int32, z = upd f_this_jaw p1.toNatClampNeg p2 := ⟨_, rfl⟩
  rw [← ef2] at hP hD
  have hP : va_P D vwCl [(q_this, .inr (8, [.int x_this_gargoyles, .int x_this_people, .int x_this_year, .ref q_this_jaw, .ref q_this_brow, .ref q_this_stone, .ref q_this_age, .ref q_this_family, .ref q_this_seat])), (q_this_jaw, .inl (ct 0, 16, .inl f2)), (q_this_brow, .inl (ct 0, 16, .inl f_this_brow)), (q_this_stone, .inl (ct 0, 8, .inl f_this_stone)), (q_this_age, .inl (ct 0, 8, .inl f_this_age)), (q_this_family, .inl (ct 0, 8, .inl f_this_family)), (q_this_seat, .inl (ct 0, 8, .inl f_this_seat))] H := hP
  have hD : va_D A [(q_this, .inr (8, [.int x_this_gargoyles, .int x_this_people, .int x_this_year, .ref q_this_jaw, .ref q_this_brow, .ref q_this_stone, .ref q_this_age, .ref q_this_family, .ref q_this_seat])), (q_this_jaw, .inl (ct 0, 16, .inl f2)), (q_this_brow, .inl (ct 0, 16, .inl f_this_brow)), (q_this_stone, .inl (ct 0, 8, .inl f_this_stone)), (q_this_age, .inl (ct 0, 8, .inl f_this_age)), (q_this_family, .inl (ct 0, 8, .inl f_this_family)), (q_this_seat, .inl (ct 0, 8, .inl f_this_seat))] := hD
  refine lv_aload_n hx hb dX8_setFace_7 rfl (lv_at hl 0 rfl) ?_
  refine va_get (D := D) (ci := 8) (v := .ref q_this_brow) (C := RX8) (T := TX8) (N := 9) hx hb hts hin_State hown hK hP 0 rfl rfl 4 (by decide) (hts (.fieldLink RX8 15 "GutterSeats$State" "brow" "[I") (by decide +kernel)) (fun _ h9 => h9) rfl dX8_setFace_8 ?_
  refine lv_iload_n hx hb dX8_setFace_11 rfl (lv_at hl 1 rfl) ?_
  refine lv_iload_n hx hb dX8_setFace_12 rfl (lv_at hl 3 rfl) ?_
  have n3 : vp_in p1 16 := iv_in i_p1 (by decide) (by decide)
  refine va_iast hx hb hK hP hD hS 2 0 rfl rfl n3 dX8_setFace_13 (fun H locs hP hD hS => ?_)
  obtain ⟨f4, ef4⟩ : ∃ z : Nat → Int32, z = upd f_this_brow p1.toNatClampNeg p3 := ⟨_, rfl⟩
  rw [← ef4] at hP hD
  have hP : va_P D vwCl [(q_this, .inr (8, [.int x_this_gargoyles, .int x_this_people, .int x_this_year, .ref q_this_jaw, .ref q_this_brow, .ref q_this_stone, .ref q_this_age, .ref q_this_family, .ref q_this_seat])), (q_this_jaw, .inl (ct 0, 16, .inl f2)), (q_this_brow, .inl (ct 0, 16, .inl f4)), (q_this_stone, .inl (ct 0, 8, .inl f_this_stone)), (q_this_age, .inl (ct 0, 8, .inl f_this_age)), (q_this_family, .inl (ct 0, 8, .inl f_this_family)), (q_this_seat, .inl (ct 0, 8, .inl f_this_seat))] H := hP
  have hD : va_D A [(q_this, .inr (8, [.int x_this_gargoyles, .int x_this_people, .int x_this_year, .ref q_this_jaw, .ref q_this_brow, .ref q_this_stone, .ref q_this_age, .ref q_this_family, .ref q_this_seat])), (q_this_jaw, .inl (ct 0, 16, .inl f2)), (q_this_brow, .inl (ct 0, 16, .inl f4)), (q_this_stone, .inl (ct 0, 8, .inl f_this_stone)), (q_this_age, .inl (ct 0, 8, .inl f_this_age)), (q_this_family, .inl (ct 0, 8, .inl f_this_family)), (q_this_seat, .inl (ct 0, 8, .inl f_this_seat))] := hD
  exact hE (f2, f4) _ _ _ _ trivial hP hD hS dX8_setFace_14
abbrev rm_State_setStone : Room := { frames := 1, cells := 0, slots := 0, locals := 23 }
set_option maxHeartbeats 4000000 in
set_option maxRecDepth 100000 in
theorem c_State_setStone (l : Launch) (D : va_G) (ct : Nat → ClassId) (q_this q_this_jaw q_this_brow q_this_stone q_this_age q_this_family q_this_seat : Nat) (sz : Nat) (x_this_gargoyles x_this_people x_this_year : Int32) (f_this_jaw f_this_brow f_this_stone f_this_age f_this_family f_this_seat : Nat → Int32) (p1 p2 : Int32) (i_x_this_gargoyles : iv x_this_gargoyles 0 8) (i_x_this_people : iv x_this_people 0 8) (i_x_this_year : iv x_this_year 0 5000) (a_f_this_seat : av f_this_seat 8 (-1) 7) (i_p1 : iv p1 0 7) : cV l yX8_setStone wsX8_setStone rm_State_setStone D ct [(q_this, .inr (8, [.int x_this_gargoyles, .int x_this_people, .int x_this_year, .ref q_this_jaw, .ref q_this_brow, .ref q_this_stone, .ref q_this_age, .ref q_this_family, .ref q_this_seat])), (q_this_jaw, .inl (ct 0, 16, .inl f_this_jaw)), (q_this_brow, .inl (ct 0, 16, .inl f_this_brow)), (q_this_stone, .inl (ct 0, 8, .inl f_this_stone)), (q_this_age, .inl (ct 0, 8, .inl f_this_age)), (q_this_family, .inl (ct 0, 8, .inl f_this_family)), (q_this_seat, .inl (ct 0, 8, .inl f_this_seat))] sz [.ref q_this, .int p1, .int p2] (fun u : (Nat → Int32) × (Nat → Int32) × (Nat → Int32) => True) (fun u : (Nat → Int32) × (Nat → Int32) × (Nat → Int32) => [(q_this, .inr (8, [.int x_this_gargoyles, .int x_this_people, .int x_this_year, .ref q_this_jaw, .ref q_this_brow, .ref q_this_stone, .ref q_this_age, .ref q_this_family, .ref q_this_seat])), (q_this_jaw, .inl (ct 0, 16, .inl u.1)), (q_this_brow, .inl (ct 0, 16, .inl u.2.1)), (q_this_stone, .inl (ct 0, 8, .inl u.2.2)), (q_this_age, .inl (ct 0, 8, .inl f_this_age)), (q_this_family, .inl (ct 0, 8, .inl f_this_family)), (q_this_seat, .inl (ct 0, 8, .inl f_this_seat))]) := by
  refine cV_of (cc := cX8_setStone) (maxL := 3) (by decide) rfl (Nat.le_of_ble_eq_true rfl) ?_
  intro p e s m args below meth c Q A hx hb hml hts hown hK hP hD hA hAe hsz hname hE ls hl
  have hS : va_S A s.heap s.heap [] := va_S.rf
  have hP : va_P D vwCl [(q_this, .inr (8, [.int x_this_gargoyles, .int x_this_people, .int x_this_year, .ref q_this_jaw, .ref q_this_brow, .ref q_this_stone, .ref q_this_age, .ref q_this_family, .ref q_this_seat])), (q_this_jaw, .inl (ct 0, 16, .inl f_this_jaw)), (q_this_brow, .inl (ct 0, 16, .inl f_this_brow)), (q_this_stone, .inl (ct 0, 8, .inl f_this_stone)), (q_this_age, .inl (ct 0, 8, .inl f_this_age)), (q_this_family, .inl (ct 0, 8, .inl f_this_family)), (q_this_seat, .inl (ct 0, 8, .inl f_this_seat))] s.heap := hP
  have hD : va_D A [(q_this, .inr (8, [.int x_this_gargoyles, .int x_this_people, .int x_this_year, .ref q_this_jaw, .ref q_this_brow, .ref q_this_stone, .ref q_this_age, .ref q_this_family, .ref q_this_seat])), (q_this_jaw, .inl (ct 0, 16, .inl f_this_jaw)), (q_this_brow, .inl (ct 0, 16, .inl f_this_brow)), (q_this_stone, .inl (ct 0, 8, .inl f_this_stone)), (q_this_age, .inl (ct 0, 8, .inl f_this_age)), (q_this_family, .inl (ct 0, 8, .inl f_this_family)), (q_this_seat, .inl (ct 0, 8, .inl f_this_seat))] := hD
  have hl : lv_has ls 3 [(0, .ref q_this), (1, .int p1), (2, .int p2)] := hl
  have hin_State : ∀ w ∈ u_ws RX8 TX8 9, w ∈ wsX8_setStone := by decide +kernel
  refine lv_aload_n hx hb dX8_setStone_0 rfl (lv_at hl 0 rfl) ?_
  refine va_get (D := D) (ci := 8) (v := .ref q_this_stone) (C := RX8) (T := TX8) (N := 9) hx hb hts hin_State hown hK hP 0 rfl rfl 5 (by decide) (hts (.fieldLink RX8 18 "GutterSeats$State" "stone" "[I") (by decide +kernel)) (fun _ h9 => h9) rfl dX8_setStone_1 ?_
  refine lv_iload_n hx hb dX8_setStone_4 rfl (lv_at hl 1 rfl) ?_
  refine lv_iconst (v := 0) hx hb dX8_setStone_5 (by decide) ?_
  refine lv_iload_n hx hb dX8_setStone_6 rfl (lv_at hl 2 rfl) ?_
  refine va_mmax hx hb (by rw [hml]; exact hl.1.symm) hown (hts (.methodLink RX8 59 Lib.Math.max.name) (by decide +kernel)) (hts (.static Lib.Math.max.name) (by decide +kernel)) (hts (.initialized "java/lang/Math") (by decide +kernel)) (hts (.code Lib.Math.max.name Lib.Math.max.code 2 (some .int)) (by decide +kernel)) (Nat.le_of_ble_eq_true rfl) (Nat.le_of_ble_eq_true rfl) (Nat.le_of_ble_eq_true rfl) (Nat.le_of_ble_eq_true rfl) dX8_setStone_7 ?_
  refine lv_topi (fun x1 ex1 => ?_)
  have i_x1 : iv x1 0 2147483647 := iv_max ex1 (iv_lit (0 : Int32) (by decide) : iv (0 : Int32) 0 0) (iv_any _) (by decide) (by decide) (by decide)
  have n2 : vp_in p1 8 := iv_in i_p1 (by decide) (by decide)
  refine va_iast hx hb hK hP hD hS 3 0 rfl rfl n2 dX8_setStone_10 (fun H locs hP hD hS => ?_)
  obtain ⟨f3, ef3⟩ : ∃ z : Nat → Int32, z = upd f_this_stone p1.toNatClampNeg x1 := ⟨_, rfl⟩
  rw [← ef3] at hP hD
  have hP : va_P D vwCl [(q_this, .inr (8, [.int x_this_gargoyles, .int x_this_people, .int x_this_year, .ref q_this_jaw, .ref q_this_brow, .ref q_this_stone, .ref q_this_age, .ref q_this_family, .ref q_this_seat])), (q_this_jaw, .inl (ct 0, 16, .inl f_this_jaw)), (q_this_brow, .inl (ct 0, 16, .inl f_this_brow)), (q_this_stone, .inl (ct 0, 8, .inl f3)), (q_this_age, .inl (ct 0, 8, .inl f_this_age)), (q_this_family, .inl (ct 0, 8, .inl f_this_family)), (q_this_seat, .inl (ct 0, 8, .inl f_this_seat))] H := hP
  have hD : va_D A [(q_this, .inr (8, [.int x_this_gargoyles, .int x_this_people, .int x_this_year, .ref q_this_jaw, .ref q_this_brow, .ref q_this_stone, .ref q_this_age, .ref q_this_family, .ref q_this_seat])), (q_this_jaw, .inl (ct 0, 16, .inl f_this_jaw)), (q_this_brow, .inl (ct 0, 16, .inl f_this_brow)), (q_this_stone, .inl (ct 0, 8, .inl f3)), (q_this_age, .inl (ct 0, 8, .inl f_this_age)), (q_this_family, .inl (ct 0, 8, .inl f_this_family)), (q_this_seat, .inl (ct 0, 8, .inl f_this_seat))] := hD
  refine lv_aload_n hx hb dX8_setStone_11 rfl (lv_at hl 0 rfl) ?_
  refine va_get (D := D) (ci := 8) (v := .ref q_this_stone) (C := RX8) (T := TX8) (N := 9) hx hb hts hin_State hown hK hP 0 rfl rfl 5 (by decide) (hts (.fieldLink RX8 18 "GutterSeats$State" "stone" "[I") (by decide +kernel)) (fun _ h9 => h9) rfl dX8_setStone_12 ?_
  refine lv_iload_n hx hb dX8_setStone_15 rfl (lv_at hl 1 rfl) ?_
  have n4 : vp_in p1 8 := iv_in i_p1 (by decide) (by decide)
  refine va_iald hx hb hK hP 3 0 rfl rfl n4 dX8_setStone_16 ?_
  refine lv_topi (fun x5 ex5 => ?_)
  refine lv_if_ne (tgt := 27) hx hb dX8_setStone_17 (by decide) (fun c6 => ?_) (fun c6 => ?_)
  ·
    exact hE (f_this_jaw, f_this_brow, f3) _ _ _ _ trivial hP hD hS dX8_setStone_27
  ·
    have j7 : iv x5 0 0 := by rw [c6]; exact (iv_lit (0 : Int32) (by decide) : iv (0 : Int32) 0 0)
    refine lv_aload_n hx hb dX8_setStone_20 rfl (lv_at hl 0 rfl) ?_
    refine lv_iload_n hx hb dX8_setStone_21 rfl (lv_at hl 1 rfl) ?_
    refine lv_iconst (v := 0) hx hb dX8_setStone_22 (by decide) ?_
    refine lv_iconst (v := 0) hx hb dX8_setStone_23 (by decide) ?_
    refine kVV (rest := []) (ci := 8) (wr := []) ⟨hx, hb, hml, hown, hts⟩ (c_State_setFace l D ct q_this q_this_jaw q_this_brow q_this_stone q_this_age q_this_family q_this_seat H.size x_this_gargoyles x_this_people x_this_year f_this_jaw f_this_brow f3 f_this_age f_this_family f_this_seat p1 (0 : Int32) (0 : Int32) i_x_this_gargoyles i_x_this_people i_x_this_year a_f_this_seat (iv_w i_p1 (by decide) (by decide))) (cwV 3 hts gX8_setStone_X8_setFace rfl rfl rfl (by decide +kernel) ⟨(Nat.le_of_ble_eq_true rfl), (Nat.le_of_ble_eq_true rfl)⟩) hK hP hD hS hA [0, 1, 2, 3, 4, 5, 6] [] rfl rfl rfl rfl (by decide) rfl rfl rfl rfl hl.1 rfl (Nat.le_of_ble_eq_true rfl) dX8_setStone_24 ⟨(Nat.le_of_ble_eq_true rfl), (Nat.le_of_ble_eq_true rfl)⟩ (fun u9 H locs hr8 hP hD hS => ?_)
    obtain ⟨f10, f11⟩ := u9
    have hP := hP.sub (ws' := [(q_this, .inr (8, [.int x_this_gargoyles, .int x_this_people, .int x_this_year, .ref q_this_jaw, .ref q_this_brow, .ref q_this_stone, .ref q_this_age, .ref q_this_family, .ref q_this_seat])), (q_this_jaw, .inl (ct 0, 16, .inl f10)), (q_this_brow, .inl (ct 0, 16, .inl f11)), (q_this_stone, .inl (ct 0, 8, .inl f3)), (q_this_age, .inl (ct 0, 8, .inl f_this_age)), (q_this_family, .inl (ct 0, 8, .inl f_this_family)), (q_this_seat, .inl (ct 0, 8, .inl f_this_seat))]) [0, 1, 2, 3, 4, 5, 6] rfl
    have hD := hD.sub (ws' := [(q_this, .inr (8, [.int x_this_gargoyles, .int x_this_people, .int x_this_year, .ref q_this_jaw, .ref q_this_brow, .ref q_this_stone, .ref q_this_age, .ref q_this_family, .ref q_this_seat])), (q_this_jaw, .inl (ct 0, 16, .inl f10)), (q_this_brow, .inl (ct 0, 16, .inl f11)), (q_this_stone, .inl (ct 0, 8, .inl f3)), (q_this_age, .inl (ct 0, 8, .inl f_this_age)), (q_this_family, .inl (ct 0, 8, .inl f_this_family)), (q_this_seat, .inl (ct 0, 8, .inl f_this_seat))]) [0, 1, 2, 3, 4, 5, 6] (by decide) rfl
    exact hE (f10, f11, f3) _ _ _ _ trivial hP hD hS dX8_setStone_27
