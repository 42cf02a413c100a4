abbrev rm_Seen_put : Room := { frames := 0, cells := 0, slots := 0, locals := 0 }
set_option maxHeartbeats 4000000 in
set_option maxRecDepth 100000 in
theorem c_Seen_put (l : Launch) (D : va_G) (ct : Nat → ClassId) (q_this q_this_who q_this_behind q_this_jaw : Nat) (sz : Nat) (x_this_size : Int32) (f_this_who f_this_behind f_this_jaw : Nat → Int32) (p1 p2 p3 : Int32) (i_x_this_size : iv x_this_size 0 8) (a_f_this_who : av f_this_who 8 0 7) (a_f_this_behind : av f_this_behind 8 0 20) (i_p1 : iv p1 0 7) (i_p2 : iv p2 0 20) : cV l yX7_put wsX7_put rm_Seen_put D ct [(q_this, .inr (7, [.ref q_this_who, .ref q_this_behind, .ref q_this_jaw, .int x_this_size])), (q_this_who, .inl (ct 0, 8, .inl f_this_who)), (q_this_behind, .inl (ct 0, 8, .inl f_this_behind)), (q_this_jaw, .inl (ct 0, 8, .inl f_this_jaw))] sz [.ref q_this, .int p1, .int p2, .int p3] (fun u : (Nat → Int32) × (Nat → Int32) × (Nat → Int32) × Int32 => av u.1 8 0 7 ∧ av u.2.1 8 0 20 ∧ iv u.2.2.2 0 8 ∧ ((x_this_size.toInt < 8 ∧ u.2.2.2.toInt = x_this_size.toInt + 1) ∨ (8 ≤ x_this_size.toInt ∧ u.2.2.2.toInt = x_this_size.toInt)) ∧ (u.1, u.2.1, u.2.2.1, u.2.2.2) = m_Seen_put x_this_size f_this_who f_this_behind f_this_jaw p1 p2 p3) (fun u : (Nat → Int32) × (Nat → Int32) × (Nat → Int32) × Int32 => [(q_this, .inr (7, [.ref q_this_who, .ref q_this_behind, .ref q_this_jaw, .int u.2.2.2])), (q_this_who, .inl (ct 0, 8, .inl u.1)), (q_this_behind, .inl (ct 0, 8, .inl u.2.1)), (q_this_jaw, .inl (ct 0, 8, .inl u.2.2.1))]) := by
  refine cV_of (cc := cX7_put) (maxL := 4) (by decide) rfl (Nat.le_of_ble_eq_true rfl) ?_
  intro p e s m args below meth c Q A hx hb hml hts hown hK hP hD hA hAe hsz hname hE ls hl
  have hS : va_S A s.heap s.heap [] := va_S.rf
  have hP : va_P D vwCl [(q_this, .inr (7, [.ref q_this_who, .ref q_this_behind, .ref q_this_jaw, .int x_this_size])), (q_this_who, .inl (ct 0, 8, .inl f_this_who)), (q_this_behind, .inl (ct 0, 8, .inl f_this_behind)), (q_this_jaw, .inl (ct 0, 8, .inl f_this_jaw))] s.heap := hP
  have hD : va_D A [(q_this, .inr (7, [.ref q_this_who, .ref q_this_behind, .ref q_this_jaw, .int x_this_size])), (q_this_who, .inl (ct 0, 8, .inl f_this_who)), (q_this_behind, .inl (ct 0, 8, .inl f_this_behind)), (q_this_jaw, .inl (ct 0, 8, .inl f_this_jaw))] := hD
  have hl : lv_has ls 4 [(0, .ref q_this), (1, .int p1), (2, .int p2), (3, .int p3)] := hl
  obtain ⟨R, hRe⟩ : ∃ R : ((Nat → Int32) × (Nat → Int32) × (Nat → Int32) × Int32), R = m_Seen_put x_this_size f_this_who f_this_behind f_this_jaw p1 p2 p3 := ⟨_, rfl⟩
  have hR : uy_Q R (fun z : ((Nat → Int32) × (Nat → Int32) × (Nat → Int32) × Int32) => z) (m_Seen_put x_this_size f_this_who f_this_behind f_this_jaw p1 p2 p3) := hRe
  have hin_Seen : ∀ w ∈ u_ws RX7 TX7 4, w ∈ wsX7_put := fun w h => List.mem_cons_of_mem _ (List.mem_append_right _ (h))
  delta m_Seen_put at hR
  refine lv_aload_n hx hb dX7_put_0 rfl (lv_at hl 0 rfl) ?_
  refine va_get (D := D) (ci := 7) (v := .int x_this_size) (C := RX7) (T := TX7) (N := 4) hx hb hts hin_Seen hown hK hP 0 rfl rfl 3 (by decide) (hts (.fieldLink RX7 21 "GutterSeats$Seen" "size" "I") (List.mem_cons_of_mem _ (List.mem_append_left _ (List.mem_of_getElem? (i := 0) (by first | rfl | decide +kernel))))) (fun _ h9 => h9) rfl dX7_put_1 ?_
  refine lv_bipush (v := 8) hx hb dX7_put_4 (by decide) ?_
  refine lv_icmp_ge (tgt := 49) hx hb dX7_put_6 (by decide) (fun c1 => ?_) (fun c1 => ?_)
  ·
    replace hR := uy_Qp c1 hR
    have j2 : iv x_this_size 8 8 := iv_leR c1 (iv_lit (8 : Int32) (by decide) : iv (8 : Int32) 8 8) i_x_this_size (by decide)
    exact hE (f_this_who, f_this_behind, f_this_jaw, x_this_size) _ _ _ _ ⟨a_f_this_who, a_f_this_behind, (iv_w j2 (by decide) (by decide)), (show (x_this_size.toInt < 8 ∧ x_this_size.toInt = x_this_size.toInt + 1) ∨ (8 ≤ x_this_size.toInt ∧ x_this_size.toInt = x_this_size.toInt) from (by have := (j2).1; have := (j2).2; have : (8 : Int32).toInt = 8 := rfl; have := le_i c1; omega)), ((uy_Q0 hR).symm.trans hRe)⟩ hP hD hS dX7_put_49
  ·
    replace hR := uy_Qn c1 hR
    have j3 : iv x_this_size 0 7 := iv_ltL (iv_nle c1) i_x_this_size (iv_lit (8 : Int32) (by decide) : iv (8 : Int32) 8 8) (by decide)
    refine lv_aload_n hx hb dX7_put_9 rfl (lv_at hl 0 rfl) ?_
    refine va_get (D := D) (ci := 7) (v := .ref q_this_who) (C := RX7) (T := TX7) (N := 4) hx hb hts hin_Seen hown hK hP 0 rfl rfl 0 (by decide) (hts (.fieldLink RX7 9 "GutterSeats$Seen" "who" "[I") (List.mem_cons_of_mem _ (List.mem_append_left _ (List.mem_of_getElem? (i := 1) (by first | rfl | decide +kernel))))) (fun _ h9 => h9) rfl dX7_put_10 ?_
    refine lv_aload_n hx hb dX7_put_13 rfl (lv_at hl 0 rfl) ?_
    refine va_get (D := D) (ci := 7) (v := .int x_this_size) (C := RX7) (T := TX7) (N := 4) hx hb hts hin_Seen hown hK hP 0 rfl rfl 3 (by decide) (hts (.fieldLink RX7 21 "GutterSeats$Seen" "size" "I") (List.mem_cons_of_mem _ (List.mem_append_left _ (List.mem_of_getElem? (i := 0) (by first | rfl | decide +kernel))))) (fun _ h9 => h9) rfl dX7_put_14 ?_
    refine lv_iload_n hx hb dX7_put_17 rfl (lv_at hl 1 rfl) ?_
    have n4 : vp_in x_this_size 8 := iv_in j3 (by decide) (by decide)
    refine va_iast hx hb hK hP hD hS 1 0 rfl rfl n4 dX7_put_18 (fun H locs hP hD hS => ?_)
    obtain ⟨f5, ef5⟩ : ∃ z : Nat → Int32, z = upd f_this_who x_this_size.toNatClampNeg p1 := ⟨_, rfl⟩
    replace hR := uy_Ls ef5 hR
    rw [← ef5] at hP hD
    have hP : va_P D vwCl [(q_this, .inr (7, [.ref q_this_who, .ref q_this_behind, .ref q_this_jaw, .int x_this_size])), (q_this_who, .inl (ct 0, 8, .inl f5)), (q_this_behind, .inl (ct 0, 8, .inl f_this_behind)), (q_this_jaw, .inl (ct 0, 8, .inl f_this_jaw))] H := hP
    have hD : va_D A [(q_this, .inr (7, [.ref q_this_who, .ref q_this_behind, .ref q_this_jaw, .int x_this_size])), (q_this_who, .inl (ct 0, 8, .inl f5)), (q_this_behind, .inl (ct 0, 8, .inl f_this_behind)), (q_this_jaw, .inl (ct 0, 8, .inl f_this_jaw))] := hD
    have a_f5 : av f5 8 0 7 := by rw [ef5]; exact av_upd a_f_this_who _ i_p1
    refine lv_aload_n hx hb dX7_put_19 rfl (lv_at hl 0 rfl) ?_
    refine va_get (D := D) (ci := 7) (v := .ref q_this_behind) (C := RX7) (T := TX7) (N := 4) hx hb hts hin_Seen hown hK hP 0 rfl rfl 1 (by decide) (hts (.fieldLink RX7 15 "GutterSeats$Seen" "behind" "[I") (List.mem_cons_of_mem _ (List.mem_append_left _ (List.mem_of_getElem? (i := 2) (by first | rfl | decide +kernel))))) (fun _ h9 => h9) rfl dX7_put_20 ?_
    refine lv_aload_n hx hb dX7_put_23 rfl (lv_at hl 0 rfl) ?_
    refine va_get (D := D) (ci := 7) (v := .int x_this_size) (C := RX7) (T := TX7) (N := 4) hx hb hts hin_Seen hown hK hP 0 rfl rfl 3 (by decide) (hts (.fieldLink RX7 21 "GutterSeats$Seen" "size" "I") (List.mem_cons_of_mem _ (List.mem_append_left _ (List.mem_of_getElem? (i := 0) (by first | rfl | decide +kernel))))) (fun _ h9 => h9) rfl dX7_put_24 ?_
    refine lv_iload_n hx hb dX7_put_27 rfl (lv_at hl 2 rfl) ?_
    have n6 : vp_in x_this_size 8 := iv_in j3 (by decide) (by decide)
    refine va_iast hx hb hK hP hD hS 2 0 rfl rfl n6 dX7_put_28 (fun H locs hP hD hS => ?_)
    obtain ⟨f7, ef7⟩ : ∃ z : Nat → Int32, z = upd f_this_behind x_this_size.toNatClampNeg p2 := ⟨_, rfl⟩
    replace hR := uy_Ls ef7 hR
    rw [← ef7] at hP hD
    have hP : va_P D vwCl [(q_this, .inr (7, [.ref q_this_who, .ref q_this_behind, .ref q_this_jaw, .int x_this_size])), (q_this_who, .inl (ct 0, 8, .inl f5)), (q_this_behind, .inl (ct 0, 8, .inl f7)), (q_this_jaw, .inl (ct 0, 8, .inl f_this_jaw))] H := hP
    have hD : va_D A [(q_this, .inr (7, [.ref q_this_who, .ref q_this_behind, .ref q_this_jaw, .int x_this_size])), (q_this_who, .inl (ct 0, 8, .inl f5)), (q_this_behind, .inl (ct 0, 8, .inl f7)), (q_this_jaw, .inl (ct 0, 8, .inl f_this_jaw))] := hD
    have a_f7 : av f7 8 0 20 := by rw [ef7]; exact av_upd a_f_this_behind _ i_p2
    refine lv_aload_n hx hb dX7_put_29 rfl (lv_at hl 0 rfl) ?_
    refine va_get (D := D) (ci := 7) (v := .ref q_this_jaw) (C := RX7) (T := TX7) (N := 4) hx hb hts hin_Seen hown hK hP 0 rfl rfl 2 (by decide) (hts (.fieldLink RX7 18 "GutterSeats$Seen" "jaw" "[I") (List.mem_cons_of_mem _ (List.mem_append_left _ (List.mem_of_getElem? (i := 3) (by first | rfl | decide +kernel))))) (fun _ h9 => h9) rfl dX7_put_30 ?_
    refine lv_aload_n hx hb dX7_put_33 rfl (lv_at hl 0 rfl) ?_
    refine va_get (D := D) (ci := 7) (v := .int x_this_size) (C := RX7) (T := TX7) (N := 4) hx hb hts hin_Seen hown hK hP 0 rfl rfl 3 (by decide) (hts (.fieldLink RX7 21 "GutterSeats$Seen" "size" "I") (List.mem_cons_of_mem _ (List.mem_append_left _ (List.mem_of_getElem? (i := 0) (by first | rfl | decide +kernel))))) (fun _ h9 => h9) rfl dX7_put_34 ?_
    refine lv_iload_n hx hb dX7_put_37 rfl (lv_at hl 3 rfl) ?_
    have n8 : vp_in x_this_size 8 := iv_in j3 (by decide) (by decide)
    refine va_iast hx hb hK hP hD hS 3 0 rfl rfl n8 dX7_put_38 (fun H locs hP hD hS => ?_)
    obtain ⟨f9, ef9⟩ : ∃ z : Nat → Int32, z = upd f_this_jaw x_this_size.toNatClampNeg p3 := ⟨_, rfl⟩
    replace hR := uy_Ls ef9 hR
    rw [← ef9] at hP hD
    have hP : va_P D vwCl [(q_this, .inr (7, [.ref q_this_who, .ref q_this_behind, .ref q_this_jaw, .int x_this_size])), (q_this_who, .inl (ct 0, 8, .inl f5)), (q_this_behind, .inl (ct 0, 8, .inl f7)), (q_this_jaw, .inl (ct 0, 8, .inl f9))] H := hP
    have hD : va_D A [(q_this, .inr (7, [.ref q_this_who, .ref q_this_behind, .ref q_this_jaw, .int x_this_size])), (q_this_who, .inl (ct 0, 8, .inl f5)), (q_this_behind, .inl (ct 0, 8, .inl f7)), (q_this_jaw, .inl (ct 0, 8, .inl f9))] := hD
    refine lv_aload_n hx hb dX7_put_39 rfl (lv_at hl 0 rfl) ?_
    refine lv_dup hx hb dX7_put_40 rfl ?_
    refine va_get (D := D) (ci := 7) (v := .int x_this_size) (C := RX7) (T := TX7) (N := 4) hx hb hts hin_Seen hown hK hP 0 rfl rfl 3 (by decide) (hts (.fieldLink RX7 21 "GutterSeats$Seen" "size" "I") (List.mem_cons_of_mem _ (List.mem_append_left _ (List.mem_of_getElem? (i := 0) (by first | rfl | decide +kernel))))) (fun _ h9 => h9) rfl dX7_put_41 ?_
    refine lv_iconst (v := 1) hx hb dX7_put_44 (by decide) ?_
    refine lv_iadd hx hb dX7_put_45 ?_
    refine lv_topi (fun x10 ex10 => ?_)
    replace hR := uy_Ls ex10 hR
    have i_x10 : iv x10 1 8 := iv_add ex10 j3 (iv_lit (1 : Int32) (by decide) : iv (1 : Int32) 1 1) (by decide) (by decide) (by decide) (by decide)
    refine va_put (D := D) (ci := 7) (v := .int x10) (ty := .int) (C := RX7) (T := TX7) (N := 4) hx hb hts hin_Seen tyX7 tyX7_ok nmX7 hown hK hP hD hS 0 rfl rfl 3 (by decide) (hts (.fieldLink RX7 21 "GutterSeats$Seen" "size" "I") (List.mem_cons_of_mem _ (List.mem_append_left _ (List.mem_of_getElem? (i := 0) (by first | rfl | decide +kernel))))) (fun _ h9 => h9) rfl (by first | exact tyX7_ok 3 (by decide) | decide +kernel) rfl rfl (Nat.le_of_ble_eq_true rfl) dX7_put_46 (fun H locs hP hD hS => ?_)
    have hP : va_P D vwCl [(q_this, .inr (7, [.ref q_this_who, .ref q_this_behind, .ref q_this_jaw, .int x10])), (q_this_who, .inl (ct 0, 8, .inl f5)), (q_this_behind, .inl (ct 0, 8, .inl f7)), (q_this_jaw, .inl (ct 0, 8, .inl f9))] H := hP
    have hD : va_D A [(q_this, .inr (7, [.ref q_this_who, .ref q_this_behind, .ref q_this_jaw, .int x10])), (q_this_who, .inl (ct 0, 8, .inl f5)), (q_this_behind, .inl (ct 0, 8, .inl f7)), (q_this_jaw, .inl (ct 0, 8, .inl f9))] := hD
    exact hE (f5, f7, f9, x10) _ _ _ _ ⟨a_f5, a_f7, (iv_w i_x10 (by decide) (by decide)), (show (x_this_size.toInt < 8 ∧ x10.toInt = x_this_size.toInt + 1) ∨ (8 ≤ x_this_size.toInt ∧ x10.toInt = x_this_size.toInt) from (by have := (j3).1; have := (j3).2; have := (i_x10).1; have := (i_x10).2; have : (8 : Int32).toInt = 8 := rfl; have : (1 : Int32).toInt = 1 := rfl; have := lt_i (iv_nle c1); have : x10.toInt = x_this_size.toInt + (1 : Int32).toInt := (by rw [ex10]; exact iv_tadd (by omega) (by omega)); omega)), ((uy_Q0 hR).symm.trans hRe)⟩ hP hD hS dX7_put_49
abbrev rm_Seen_lastYears : Room := { frames := 1, cells := 0, slots := 0, locals := 21 }
set_option maxHeartbeats 4000000 in
set_option maxRecDepth 100000 in
theorem c_Seen_lastYears (l : Launch) (D : va_G) (ct : Nat → ClassId) (q_this q_this_who q_this_behind q_this_jaw : Nat) (x_this_size : Int32) (f_this_who f_this_behind f_this_jaw : Nat → Int32) (i_x_this_size : iv x_this_size 0 8) (a_f_this_who : av f_this_who 8 0 7) (a_f_this_behind : av f_this_behind 8 0 20) : cP l yX7_lastYears wsX7_lastYears rm_Seen_lastYears D ct [(q_this, .inr (7, [.ref q_this_who, .ref q_this_behind, .ref q_this_jaw, .int x_this_size])), (q_this_who, .inl (ct 0, 8, .inl f_this_who)), (q_this_behind, .inl (ct 0, 8, .inl f_this_behind)), (q_this_jaw, .inl (ct 0, 8, .inl f_this_jaw))] [.ref q_this] (fun r : Int32 => iv r (-1) 20 ∧ r = m_Seen_lastYears x_this_size f_this_behind) := by
  refine cP_of (cc := cX7_lastYears) (maxL := 3) (by decide) rfl (Nat.le_of_ble_eq_true rfl) ?_
  intro p e s m args below meth c Q hx hb hml hts hown hK hP hE ls hl
  have hl : lv_has ls 3 [(0, .ref q_this)] := hl
  obtain ⟨R, hRe⟩ : ∃ R : (Int32), R = m_Seen_lastYears x_this_size f_this_behind := ⟨_, rfl⟩
  have hR : uy_Q R (fun z : (Int32) => z) (m_Seen_lastYears x_this_size f_this_behind) := hRe
  have hin_Seen : ∀ w ∈ u_ws RX7 TX7 4, w ∈ wsX7_lastYears := fun w h => List.mem_cons_of_mem _ (List.mem_append_right _ (h))
  have K4 : ∀ (n4 : Nat) (v1c4 v2c4 : Int32) (ls : Array Slot), iv v1c4 (-1) 20 → iv v2c4 0 8 → (8 - v2c4.toInt).toNat < n4 → uy_Q R (fun z : (Int32) => z) (m_Seen_lastYears_k4 x_this_size f_this_behind (v1c4, v2c4)) → lv_has ls 3 [(0, .ref q_this), (1, .int v1c4), (2, .int v2c4)] → W p l e rm_Seen_lastYears s m args below meth c s.heap [] 0 0 Q (F0 m 4 ls []) := by
    intro n4
    induction n4 with
    | zero => intro v1c4 v2c4 ls i_v1c4 i_v2c4 hm4 hR hl; exact absurd hm4 (Nat.not_lt_zero _)
    | succ n4 ih4 =>
      intro v1c4 v2c4 ls i_v1c4 i_v2c4 hm4 hR hl
      replace hR : uy_Q R (uy_E (fun z : (Int32) => z) (m_Seen_lastYears_k4 x_this_size f_this_behind)) (m_Seen_lastYears_b4 x_this_size f_this_behind v1c4 v2c4) := uy_whs hR
      delta m_Seen_lastYears_b4 at hR
      refine lv_iload_n hx hb dX7_lastYears_4 rfl (lv_at hl 2 rfl) ?_
      refine lv_aload_n hx hb dX7_lastYears_5 rfl (lv_at hl 0 rfl) ?_
      refine va_get (D := D) (ci := 7) (v := .int x_this_size) (C := RX7) (T := TX7) (N := 4) hx hb hts hin_Seen hown hK hP 0 rfl rfl 3 (by decide) (hts (.fieldLink RX7 21 "GutterSeats$Seen" "size" "I") (List.mem_cons_of_mem _ (List.mem_append_left _ (List.mem_of_getElem? (i := 0) (by first | rfl | decide +kernel))))) (fun _ h9 => h9) rfl dX7_lastYears_6 ?_
      refine lv_icmp_ge (tgt := 29) hx hb dX7_lastYears_9 (by decide) (fun c1 => ?_) (fun c1 => ?_)
      ·
        replace hR := uy_Qp c1 hR
        refine lv_iload_n hx hb dX7_lastYears_29 rfl (lv_at hl 1 rfl) ?_
        exact hE _ _ _ ⟨i_v1c4, ((uy_Q0 (uy_Qr hR)).symm.trans hRe)⟩ dX7_lastYears_30
      ·
        replace hR := uy_Qn c1 hR
        have j2 : iv v2c4 0 7 := iv_ltL (iv_nle c1) i_v2c4 i_x_this_size (by decide)
        have j3 : iv x_this_size 1 8 := iv_ltR (iv_nle c1) i_v2c4 i_x_this_size (by decide)
        refine lv_iload_n hx hb dX7_lastYears_12 rfl (lv_at hl 1 rfl) ?_
        refine lv_aload_n hx hb dX7_lastYears_13 rfl (lv_at hl 0 rfl) ?_
        refine va_get (D := D) (ci := 7) (v := .ref q_this_behind) (C := RX7) (T := TX7) (N := 4) hx hb hts hin_Seen hown hK hP 0 rfl rfl 1 (by decide) (hts (.fieldLink RX7 15 "GutterSeats$Seen" "behind" "[I") (List.mem_cons_of_mem _ (List.mem_append_left _ (List.mem_of_getElem? (i := 1) (by first | rfl | decide +kernel))))) (fun _ h9 => h9) rfl dX7_lastYears_14 ?_
        refine lv_iload_n hx hb dX7_lastYears_17 rfl (lv_at hl 2 rfl) ?_
        have n4 : vp_in v2c4 8 := iv_in j2 (by decide) (by decide)
        refine va_iald hx hb hK hP 2 0 rfl rfl n4 dX7_lastYears_18 ?_
        refine lv_topi (fun x5 ex5 => ?_)
        replace hR := uy_Ls ex5 hR
        have i_x5 : iv x5 0 20 := by rw [ex5]; exact av_get a_f_this_behind n4
        refine va_mmax hx hb (by rw [hml]; exact hl.1.symm) hown (hts (.methodLink RX7 25 Lib.Math.max.name) (List.mem_cons_of_mem _ (List.mem_append_left _ (List.mem_of_getElem? (i := 2) (by first | rfl | decide +kernel))))) (hts (.static Lib.Math.max.name) (List.mem_cons_of_mem _ (List.mem_append_left _ (List.mem_of_getElem? (i := 3) (by first | rfl | decide +kernel))))) (hts (.initialized "java/lang/Math") (List.mem_cons_of_mem _ (List.mem_append_left _ (List.mem_of_getElem? (i := 4) (by first | rfl | decide +kernel))))) (hts (.code Lib.Math.max.name Lib.Math.max.code 2 (some .int)) (List.mem_cons_of_mem _ (List.mem_append_left _ (List.mem_of_getElem? (i := 5) (by first | rfl | decide +kernel))))) (Nat.le_of_ble_eq_true rfl) (Nat.le_of_ble_eq_true rfl) (Nat.le_of_ble_eq_true rfl) (Nat.le_of_ble_eq_true rfl) dX7_lastYears_19 ?_
        refine lv_topi (fun x6 ex6 => ?_)
        replace hR := uy_Ls ex6 hR
        have i_x6 : iv x6 0 20 := iv_max ex6 i_v1c4 i_x5 (by decide) (by decide) (by decide)
        refine lv_istore_n (lv' := [(1, .int x6), (0, .ref q_this), (2, .int v2c4)]) hx hb dX7_lastYears_22 rfl hl (by decide) rfl (fun ls hl => ?_)
        obtain ⟨x7, ex7⟩ : ∃ z : Int32, z = v2c4 + (1 : Int32) := ⟨_, rfl⟩
        refine lv_iinc (v := x7) (lv' := [(2, .int x7), (1, .int x6), (0, .ref q_this)]) hx hb dX7_lastYears_23 hl (k := 2) rfl (by rw [ex7]; rfl) (by decide) rfl (fun ls hl => ?_)
        replace hR := uy_Ls ex7 hR
        have i_x7 : iv x7 1 8 := iv_add ex7 j2 (iv_lit (1 : Int32) (by decide) : iv (1 : Int32) 1 1) (by decide) (by decide) (by decide) (by decide)
        refine lv_goto (tgt := 4) hx hb dX7_lastYears_26 (by decide) ?_
        exact ih4 x6 x7 ls (iv_w i_x6 (by decide) (by decide)) (iv_w i_x7 (by decide) (by decide)) (ms_up ex7 j2 (by decide) (by decide) hm4) (uy_Ql hR) (lv_sub hl [2, 1, 0] rfl)
  delta m_Seen_lastYears at hR
  refine lv_iconst (v := -1) hx hb dX7_lastYears_0 (by decide) ?_
  refine lv_istore_n (lv' := [(1, .int (-1 : Int32)), (0, .ref q_this)]) hx hb dX7_lastYears_1 rfl hl (by decide) rfl (fun ls hl => ?_)
  refine lv_iconst (v := 0) hx hb dX7_lastYears_2 (by decide) ?_
  refine lv_istore_n (lv' := [(2, .int (0 : Int32)), (1, .int (-1 : Int32)), (0, .ref q_this)]) hx hb dX7_lastYears_3 rfl hl (by decide) rfl (fun ls hl => ?_)
  exact K4 _ (-1 : Int32) (0 : Int32) ls (iv_lit (-1 : Int32) (by decide) : iv (-1 : Int32) (-1) 20) (iv_lit (0 : Int32) (by decide) : iv (0 : Int32) 0 8) (Nat.lt_succ_self _) hR (lv_sub hl [2, 1, 0] rfl)
abbrev rm_Seen_isSo : Room := { frames := 1, cells := 0, slots := 0, locals := 20 }
set_option maxHeartbeats 4000000 in
set_option maxRecDepth 100000 in
theorem c_Seen_isSo (l : Launch) (D : va_G) (ct : Nat → ClassId) (q_this q_this_who q_this_behind q_this_jaw q_state q_state_jaw q_state_brow q_state_stone q_state_age q_state_family q_state_seat : Nat) (x_this_size x_state_gargoyles x_state_people x_state_year : Int32) (f_this_who f_this_behind f_this_jaw f_state_jaw f_state_brow f_state_stone f_state_age f_state_family f_state_seat : Nat → Int32) (p2 : Int32) (i_x_this_size : iv x_this_size 0 8) (a_f_this_who : av f_this_who 8 0 7) (a_f_this_behind : av f_this_behind 8 0 20) (i_x_state_gargoyles : iv x_state_gargoyles 0 8) (i_x_state_people : iv x_state_people 0 8) (i_x_state_year : iv x_state_year 0 5000) (a_f_state_seat : av f_state_seat 8 (-1) 7) : cP l yX7_isSo wsX7_isSo rm_Seen_isSo D ct [(q_this, .inr (7, [.ref q_this_who, .ref q_this_behind, .ref q_this_jaw, .int x_this_size])), (q_this_who, .inl (ct 0, 8, .inl f_this_who)), (q_this_behind, .inl (ct 0, 8, .inl f_this_behind)), (q_this_jaw, .inl (ct 0, 8, .inl f_this_jaw)), (q_state, .inr (8, [.int x_state_gargoyles, .int x_state_people, .int x_state_year, .ref q_state_jaw, .ref q_state_brow, .ref q_state_stone, .ref q_state_age, .ref q_state_family, .ref q_state_seat])), (q_state_jaw, .inl (ct 0, 16, .inl f_state_jaw)), (q_state_brow, .inl (ct 0, 16, .inl f_state_brow)), (q_state_stone, .inl (ct 0, 8, .inl f_state_stone)), (q_state_age, .inl (ct 0, 8, .inl f_state_age)), (q_state_family, .inl (ct 0, 8, .inl f_state_family)), (q_state_seat, .inl (ct 0, 8, .inl f_state_seat))] [.ref q_this, .ref q_state, .int p2] (fun r : Int32 => r = m_Seen_isSo x_this_size f_this_who f_this_behind f_this_jaw f_state_jaw p2) := by
  refine cPz_of (cc := cX7_isSo) (maxL := 4) (by decide) rfl (Nat.le_of_ble_eq_true rfl) ?_
  intro p e s m args below meth c Q hx hb hml hts hown hK hP hE ls hl
  have hl : lv_has ls 4 [(0, .ref q_this), (1, .ref q_state), (2, .int p2)] := hl
  obtain ⟨R, hRe⟩ : ∃ R : (Int32), R = m_Seen_isSo x_this_size f_this_who f_this_behind f_this_jaw f_state_jaw p2 := ⟨_, rfl⟩
  have hR : uy_Q R (fun z : (Int32) => z) (m_Seen_isSo x_this_size f_this_who f_this_behind f_this_jaw f_state_jaw p2) := hRe
  have hin_Seen : ∀ w ∈ u_ws RX7 TX7 4, w ∈ wsX7_isSo := fun w h => List.mem_cons_of_mem _ (List.mem_append_left _ (List.mem_append_right _ (h)))
  have hin_State : ∀ w ∈ u_ws RX8 TX8 9, w ∈ wsX7_isSo := fun w h => List.mem_cons_of_mem _ (List.mem_append_right _ (h))
  have K2 : ∀ (n2 : Nat) (v3c2 : Int32) (ls : Array Slot), iv v3c2 0 8 → (8 - v3c2.toInt).toNat < n2 → uy_Q R (fun z : (Int32) => z) (m_Seen_isSo_k2 x_this_size f_this_who f_this_behind f_this_jaw f_state_jaw p2 (v3c2)) → lv_has ls 4 [(0, .ref q_this), (1, .ref q_state), (2, .int p2), (3, .int v3c2)] → W p l e rm_Seen_isSo s m args below meth c s.heap [] 0 0 Q (F0 m 2 ls []) := by
    intro n2
    induction n2 with
    | zero => intro v3c2 ls i_v3c2 hm2 hR hl; exact absurd hm2 (Nat.not_lt_zero _)
    | succ n2 ih2 =>
      intro v3c2 ls i_v3c2 hm2 hR hl
      replace hR : uy_Q R (uy_E (fun z : (Int32) => z) (m_Seen_isSo_k2 x_this_size f_this_who f_this_behind f_this_jaw f_state_jaw p2)) (m_Seen_isSo_b2 x_this_size f_this_who f_this_behind f_this_jaw f_state_jaw p2 v3c2) := uy_whs hR
      have K45 : ∀ (v3c45 : Int32) (ls : Array Slot), iv v3c45 0 7 → (8 - v3c45.toInt).toNat < n2 + 1 → uy_Q R (uy_E (fun z : (Int32) => z) (m_Seen_isSo_k2 x_this_size f_this_who f_this_behind f_this_jaw f_state_jaw p2)) (m_Seen_isSo_k45 x_this_size f_this_who f_this_behind f_this_jaw f_state_jaw p2 v3c45) → lv_has ls 4 [(0, .ref q_this), (1, .ref q_state), (2, .int p2), (3, .int v3c45)] → W p l e rm_Seen_isSo s m args below meth c s.heap [] 0 0 Q (F0 m 45 ls []) := by
        intro v3c45 ls i_v3c45 hm2 hR hl
        delta m_Seen_isSo_k45 at hR
        obtain ⟨x1, ex1⟩ : ∃ z : Int32, z = v3c45 + (1 : Int32) := ⟨_, rfl⟩
        refine lv_iinc (v := x1) (lv' := [(3, .int x1), (0, .ref q_this), (1, .ref q_state), (2, .int p2)]) hx hb dX7_isSo_45 hl (k := 3) rfl (by rw [ex1]; rfl) (by decide) rfl (fun ls hl => ?_)
        replace hR := uy_Ls ex1 hR
        have i_x1 : iv x1 1 8 := iv_add ex1 i_v3c45 (iv_lit (1 : Int32) (by decide) : iv (1 : Int32) 1 1) (by decide) (by decide) (by decide) (by decide)
        refine lv_goto (tgt := 2) hx hb dX7_isSo_48 (by decide) ?_
        exact ih2 x1 ls (iv_w i_x1 (by decide) (by decide)) (ms_up ex1 i_v3c45 (by decide) (by decide) hm2) (uy_Ql hR) (lv_sub hl [1, 2, 3, 0] rfl)
      delta m_Seen_isSo_b2 at hR
      refine lv_iload_n hx hb dX7_isSo_2 rfl (lv_at hl 3 rfl) ?_
      refine lv_aload_n hx hb dX7_isSo_3 rfl (lv_at hl 0 rfl) ?_
      refine va_get (D := D) (ci := 7) (v := .int x_this_size) (C := RX7) (T := TX7) (N := 4) hx hb hts hin_Seen hown hK hP 0 rfl rfl 3 (by decide) (hts (.fieldLink RX7 21 "GutterSeats$Seen" "size" "I") (List.mem_cons_of_mem _ (List.mem_append_left _ (List.mem_append_left _ (List.mem_of_getElem? (i := 0) (by first | rfl | decide +kernel)))))) (fun _ h9 => h9) rfl dX7_isSo_4 ?_
      refine lv_icmp_ge (tgt := 51) hx hb dX7_isSo_7 (by decide) (fun c2 => ?_) (fun c2 => ?_)
      ·
        replace hR := uy_Qp c2 hR
        refine lv_iconst (v := 1) hx hb dX7_isSo_51 (by decide) ?_
        exact hE _ _ _ (iv_lit (1 : Int32) (by decide) : iv (1 : Int32) 0 1) ((uy_Q0 (uy_Qr hR)).symm.trans hRe) dX7_isSo_52
      ·
        replace hR := uy_Qn c2 hR
        have j3 : iv v3c2 0 7 := iv_ltL (iv_nle c2) i_v3c2 i_x_this_size (by decide)
        have j4 : iv x_this_size 1 8 := iv_ltR (iv_nle c2) i_v3c2 i_x_this_size (by decide)
        refine lv_aload_n hx hb dX7_isSo_10 rfl (lv_at hl 0 rfl) ?_
        refine va_get (D := D) (ci := 7) (v := .ref q_this_behind) (C := RX7) (T := TX7) (N := 4) hx hb hts hin_Seen hown hK hP 0 rfl rfl 1 (by decide) (hts (.fieldLink RX7 15 "GutterSeats$Seen" "behind" "[I") (List.mem_cons_of_mem _ (List.mem_append_left _ (List.mem_append_left _ (List.mem_of_getElem? (i := 1) (by first | rfl | decide +kernel)))))) (fun _ h9 => h9) rfl dX7_isSo_11 ?_
        refine lv_iload_n hx hb dX7_isSo_14 rfl (lv_at hl 3 rfl) ?_
        have n5 : vp_in v3c2 8 := iv_in j3 (by decide) (by decide)
        refine va_iald hx hb hK hP 2 0 rfl rfl n5 dX7_isSo_15 ?_
        refine lv_topi (fun x6 ex6 => ?_)
        replace hR := uy_Ls ex6 hR
        have i_x6 : iv x6 0 20 := by rw [ex6]; exact av_get a_f_this_behind n5
        refine lv_iload_n hx hb dX7_isSo_16 rfl (lv_at hl 2 rfl) ?_
        refine lv_icmp_ne (tgt := 45) hx hb dX7_isSo_17 (by decide) (fun c7 => ?_) (fun c7 => ?_)
        ·
          replace hR := uy_Qn c7 hR
          exact K45 v3c2 ls j3 hm2 hR (lv_sub hl [0, 1, 2, 3] rfl)
        ·
          replace hR := uy_Qp c7 hR
          have j8 : iv p2 0 20 := by rw [← c7]; exact i_x6
          refine lv_aload_n hx hb dX7_isSo_20 rfl (lv_at hl 1 rfl) ?_
          refine va_get (D := D) (ci := 8) (v := .ref q_state_jaw) (C := RX8) (T := TX8) (N := 9) hx hb hts hin_State hown hK hP 4 rfl rfl 3 (by decide) (hts (.fieldLink RX7 31 "GutterSeats$State" "jaw" "[I") (List.mem_cons_of_mem _ (List.mem_append_left _ (List.mem_append_left _ (List.mem_of_getElem? (i := 2) (by first | rfl | decide +kernel)))))) (fun _ h9 => h9) rfl dX7_isSo_21 ?_
          refine lv_aload_n hx hb dX7_isSo_24 rfl (lv_at hl 0 rfl) ?_
          refine va_get (D := D) (ci := 7) (v := .ref q_this_who) (C := RX7) (T := TX7) (N := 4) hx hb hts hin_Seen hown hK hP 0 rfl rfl 0 (by decide) (hts (.fieldLink RX7 9 "GutterSeats$Seen" "who" "[I") (List.mem_cons_of_mem _ (List.mem_append_left _ (List.mem_append_left _ (List.mem_of_getElem? (i := 3) (by first | rfl | decide +kernel)))))) (fun _ h9 => h9) rfl dX7_isSo_25 ?_
          refine lv_iload_n hx hb dX7_isSo_28 rfl (lv_at hl 3 rfl) ?_
          have n9 : vp_in v3c2 8 := iv_in j3 (by decide) (by decide)
          refine va_iald hx hb hK hP 1 0 rfl rfl n9 dX7_isSo_29 ?_
          refine lv_topi (fun x10 ex10 => ?_)
          replace hR := uy_Ls ex10 hR
          have i_x10 : iv x10 0 7 := by rw [ex10]; exact av_get a_f_this_who n9
          refine kPS (rest := [.ref q_state_jaw]) ⟨hx, hb, hml, hown, hts⟩ (c_State_faceOf l D ct x10 i_x10) (va_cwS 1 hts gX7_isSo_X8_faceOf rfl rfl rfl (by first | exact hdX8_faceOf_1.2 | decide +kernel) ⟨(Nat.le_of_ble_eq_true rfl), (Nat.le_of_ble_eq_true rfl)⟩) hK hP [] rfl rfl hl.1 rfl (Nat.le_of_ble_eq_true rfl) dX7_isSo_30 ⟨(Nat.le_of_ble_eq_true rfl), (Nat.le_of_ble_eq_true rfl)⟩ (fun r11 hr11 => ?_)
          have i_r11 : iv r11 8 15 := hr11.1
          have m12 : r11 = m_State_faceOf x10 := hr11.2
          replace hR := uy_Cs1 m12 hR
          have n13 : vp_in r11 16 := iv_in i_r11 (by decide) (by decide)
          refine va_iald hx hb hK hP 5 0 rfl rfl n13 dX7_isSo_33 ?_
          refine lv_topi (fun x14 ex14 => ?_)
          replace hR := uy_Ls ex14 hR
          refine lv_aload_n hx hb dX7_isSo_34 rfl (lv_at hl 0 rfl) ?_
          refine va_get (D := D) (ci := 7) (v := .ref q_this_jaw) (C := RX7) (T := TX7) (N := 4) hx hb hts hin_Seen hown hK hP 0 rfl rfl 2 (by decide) (hts (.fieldLink RX7 18 "GutterSeats$Seen" "jaw" "[I") (List.mem_cons_of_mem _ (List.mem_append_left _ (List.mem_append_left _ (List.mem_of_getElem? (i := 4) (by first | rfl | decide +kernel)))))) (fun _ h9 => h9) rfl dX7_isSo_35 ?_
          refine lv_iload_n hx hb dX7_isSo_38 rfl (lv_at hl 3 rfl) ?_
          have n15 : vp_in v3c2 8 := iv_in j3 (by decide) (by decide)
          refine va_iald hx hb hK hP 3 0 rfl rfl n15 dX7_isSo_39 ?_
          refine lv_topi (fun x16 ex16 => ?_)
          replace hR := uy_Ls ex16 hR
          refine lv_icmp_eq (tgt := 45) hx hb dX7_isSo_40 (by decide) (fun c17 => ?_) (fun c17 => ?_)
          ·
            replace hR := uy_Qp c17 hR
            exact K45 v3c2 ls j3 hm2 hR (lv_sub hl [0, 1, 2, 3] rfl)
          ·
            replace hR := uy_Qn c17 hR
            refine lv_iconst (v := 0) hx hb dX7_isSo_43 (by decide) ?_
            exact hE _ _ _ (iv_lit (0 : Int32) (by decide) : iv (0 : Int32) 0 1) ((uy_Q0 (uy_Qr hR)).symm.trans hRe) dX7_isSo_44
  delta m_Seen_isSo at hR
  refine lv_iconst (v := 0) hx hb dX7_isSo_0 (by decide) ?_
  refine lv_istore_n (lv' := [(3, .int (0 : Int32)), (0, .ref q_this), (1, .ref q_state), (2, .int p2)]) hx hb dX7_isSo_1 rfl hl (by decide) rfl (fun ls hl => ?_)
  exact K2 _ (0 : Int32) ls (iv_lit (0 : Int32) (by decide) : iv (0 : Int32) 0 8) (Nat.lt_succ_self _) hR (lv_sub hl [1, 2, 3, 0] rfl)
abbrev rm_Seen_copyFrom : Room := { frames := 1, cells := 0, slots := 0, locals := 60 }
set_option maxHeartbeats 4000000 in
set_option maxRecDepth 100000 in
theorem c_Seen_copyFrom (l : Launch) (D : va_G) (ct : Nat → ClassId) (q_this q_this_who q_this_behind q_this_jaw q_o q_o_who q_o_behind q_o_jaw : Nat) (sz : Nat) (x_this_size x_o_size : Int32) (f_this_who f_this_behind f_this_jaw f_o_who f_o_behind f_o_jaw : Nat → Int32) (i_x_this_size : iv x_this_size 0 8) (a_f_this_who : av f_this_who 8 0 7) (a_f_this_behind : av f_this_behind 8 0 20) (i_x_o_size : iv x_o_size 0 8) (a_f_o_who : av f_o_who 8 0 7) (a_f_o_behind : av f_o_behind 8 0 20) : cV l yX7_copyFrom wsX7_copyFrom rm_Seen_copyFrom D ct [(q_this, .inr (7, [.ref q_this_who, .ref q_this_behind, .ref q_this_jaw, .int x_this_size])), (q_this_who, .inl (ct 0, 8, .inl f_this_who)), (q_this_behind, .inl (ct 0, 8, .inl f_this_behind)), (q_this_jaw, .inl (ct 0, 8, .inl f_this_jaw)), (q_o, .inr (7, [.ref q_o_who, .ref q_o_behind, .ref q_o_jaw, .int x_o_size])), (q_o_who, .inl (ct 0, 8, .inl f_o_who)), (q_o_behind, .inl (ct 0, 8, .inl f_o_behind)), (q_o_jaw, .inl (ct 0, 8, .inl f_o_jaw))] sz [.ref q_this, .ref q_o] (fun u : (Nat → Int32) × (Nat → Int32) × (Nat → Int32) × Int32 => av u.1 8 0 7 ∧ av u.2.1 8 0 20 ∧ iv u.2.2.2 0 8 ∧ u.2.2.2 = x_o_size ∧ (u.1, u.2.1, u.2.2.1, u.2.2.2) = m_Seen_copyFrom f_this_who f_this_behind f_this_jaw x_o_size f_o_who f_o_behind f_o_jaw) (fun u : (Nat → Int32) × (Nat → Int32) × (Nat → Int32) × Int32 => [(q_this, .inr (7, [.ref q_this_who, .ref q_this_behind, .ref q_this_jaw, .int u.2.2.2])), (q_this_who, .inl (ct 0, 8, .inl u.1)), (q_this_behind, .inl (ct 0, 8, .inl u.2.1)), (q_this_jaw, .inl (ct 0, 8, .inl u.2.2.1)), (q_o, .inr (7, [.ref q_o_who, .ref q_o_behind, .ref q_o_jaw, .int x_o_size])), (q_o_who, .inl (ct 0, 8, .inl f_o_who)), (q_o_behind, .inl (ct 0, 8, .inl f_o_behind)), (q_o_jaw, .inl (ct 0, 8, .inl f_o_jaw))]) := by
  refine cV_of (cc := cX7_copyFrom) (maxL := 2) (by decide) rfl (Nat.le_of_ble_eq_true rfl) ?_
  intro p e s m args below meth c Q A hx hb hml hts hown hK hP hD hA hAe hsz hname hE ls hl
  have hS : va_S A s.heap s.heap [] := va_S.rf
  have hP : va_P D vwCl [(q_this, .inr (7, [.ref q_this_who, .ref q_this_behind, .ref q_this_jaw, .int x_this_size])), (q_this_who, .inl (ct 0, 8, .inl f_this_who)), (q_this_behind, .inl (ct 0, 8, .inl f_this_behind)), (q_this_jaw, .inl (ct 0, 8, .inl f_this_jaw)), (q_o, .inr (7, [.ref q_o_who, .ref q_o_behind, .ref q_o_jaw, .int x_o_size])), (q_o_who, .inl (ct 0, 8, .inl f_o_who)), (q_o_behind, .inl (ct 0, 8, .inl f_o_behind)), (q_o_jaw, .inl (ct 0, 8, .inl f_o_jaw))] s.heap := hP
  have hD : va_D A [(q_this, .inr (7, [.ref q_this_who, .ref q_this_behind, .ref q_this_jaw, .int x_this_size])), (q_this_who, .inl (ct 0, 8, .inl f_this_who)), (q_this_behind, .inl (ct 0, 8, .inl f_this_behind)), (q_this_jaw, .inl (ct 0, 8, .inl f_this_jaw)), (q_o, .inr (7, [.ref q_o_who, .ref q_o_behind, .ref q_o_jaw, .int x_o_size])), (q_o_who, .inl (ct 0, 8, .inl f_o_who)), (q_o_behind, .inl (ct 0, 8, .inl f_o_behind)), (q_o_jaw, .inl (ct 0, 8, .inl f_o_jaw))] := hD
  have hl : lv_has ls 2 [(0, .ref q_this), (1, .ref q_o)] := hl
  obtain ⟨R, hRe⟩ : ∃ R : ((Nat → Int32) × (Nat → Int32) × (Nat → Int32) × Int32), R = m_Seen_copyFrom f_this_who f_this_behind f_this_jaw x_o_size f_o_who f_o_behind f_o_jaw := ⟨_, rfl⟩
  have hR : uy_Q R (fun z : ((Nat → Int32) × (Nat → Int32) × (Nat → Int32) × Int32) => z) (m_Seen_copyFrom f_this_who f_this_behind f_this_jaw x_o_size f_o_who f_o_behind f_o_jaw) := hRe
  have hin_Seen : ∀ w ∈ u_ws RX7 TX7 4, w ∈ wsX7_copyFrom := fun w h => List.mem_cons_of_mem _ (List.mem_append_right _ (h))
  delta m_Seen_copyFrom at hR
  refine lv_aload_n hx hb dX7_copyFrom_0 rfl (lv_at hl 0 rfl) ?_
  refine lv_aload_n hx hb dX7_copyFrom_1 rfl (lv_at hl 1 rfl) ?_
  refine va_get (D := D) (ci := 7) (v := .int x_o_size) (C := RX7) (T := TX7) (N := 4) hx hb hts hin_Seen hown hK hP 4 rfl rfl 3 (by decide) (hts (.fieldLink RX7 21 "GutterSeats$Seen" "size" "I") (List.mem_cons_of_mem _ (List.mem_append_left _ (List.mem_of_getElem? (i := 0) (by first | rfl | decide +kernel))))) (fun _ h9 => h9) rfl dX7_copyFrom_2 ?_
  refine va_put (D := D) (ci := 7) (v := .int x_o_size) (ty := .int) (C := RX7) (T := TX7) (N := 4) hx hb hts hin_Seen tyX7 tyX7_ok nmX7 hown hK hP hD hS 0 rfl rfl 3 (by decide) (hts (.fieldLink RX7 21 "GutterSeats$Seen" "size" "I") (List.mem_cons_of_mem _ (List.mem_append_left _ (List.mem_of_getElem? (i := 0) (by first | rfl | decide +kernel))))) (fun _ h9 => h9) rfl (by first | exact tyX7_ok 3 (by decide) | decide +kernel) rfl rfl (Nat.le_of_ble_eq_true rfl) dX7_copyFrom_5 (fun H locs hP hD hS => ?_)
  have hP : va_P D vwCl [(q_this, .inr (7, [.ref q_this_who, .ref q_this_behind, .ref q_this_jaw, .int x_o_size])), (q_this_who, .inl (ct 0, 8, .inl f_this_who)), (q_this_behind, .inl (ct 0, 8, .inl f_this_behind)), (q_this_jaw, .inl (ct 0, 8, .inl f_this_jaw)), (q_o, .inr (7, [.ref q_o_who, .ref q_o_behind, .ref q_o_jaw, .int x_o_size])), (q_o_who, .inl (ct 0, 8, .inl f_o_who)), (q_o_behind, .inl (ct 0, 8, .inl f_o_behind)), (q_o_jaw, .inl (ct 0, 8, .inl f_o_jaw))] H := hP
  have hD : va_D A [(q_this, .inr (7, [.ref q_this_who, .ref q_this_behind, .ref q_this_jaw, .int x_o_size])), (q_this_who, .inl (ct 0, 8, .inl f_this_who)), (q_this_behind, .inl (ct 0, 8, .inl f_this_behind)), (q_this_jaw, .inl (ct 0, 8, .inl f_this_jaw)), (q_o, .inr (7, [.ref q_o_who, .ref q_o_behind, .ref q_o_jaw, .int x_o_size])), (q_o_who, .inl (ct 0, 8, .inl f_o_who)), (q_o_behind, .inl (ct 0, 8, .inl f_o_behind)), (q_o_jaw, .inl (ct 0, 8, .inl f_o_jaw))] := hD
  refine lv_aload_n hx hb dX7_copyFrom_8 rfl (lv_at hl 1 rfl) ?_
  refine va_get (D := D) (ci := 7) (v := .ref q_o_who) (C := RX7) (T := TX7) (N := 4) hx hb hts hin_Seen hown hK hP 4 rfl rfl 0 (by decide) (hts (.fieldLink RX7 9 "GutterSeats$Seen" "who" "[I") (List.mem_cons_of_mem _ (List.mem_append_left _ (List.mem_of_getElem? (i := 1) (by first | rfl | decide +kernel))))) (fun _ h9 => h9) rfl dX7_copyFrom_9 ?_
  refine lv_iconst (v := 0) hx hb dX7_copyFrom_12 (by decide) ?_
  refine lv_aload_n hx hb dX7_copyFrom_13 rfl (lv_at hl 0 rfl) ?_
  refine va_get (D := D) (ci := 7) (v := .ref q_this_who) (C := RX7) (T := TX7) (N := 4) hx hb hts hin_Seen hown hK hP 0 rfl rfl 0 (by decide) (hts (.fieldLink RX7 9 "GutterSeats$Seen" "who" "[I") (List.mem_cons_of_mem _ (List.mem_append_left _ (List.mem_of_getElem? (i := 1) (by first | rfl | decide +kernel))))) (fun _ h9 => h9) rfl dX7_copyFrom_14 ?_
  refine lv_iconst (v := 0) hx hb dX7_copyFrom_17 (by decide) ?_
  refine lv_bipush (v := 8) hx hb dX7_copyFrom_18 (by decide) ?_
  refine va_copyi (rest := []) hx hb (by rw [hml]; exact hl.1.symm) hown (hts (.methodLink RX7 38 arraycopyName) (List.mem_cons_of_mem _ (List.mem_append_left _ (List.mem_of_getElem? (i := 2) (by first | rfl | decide +kernel))))) (hts (.native arraycopyName) (List.mem_cons_of_mem _ (List.mem_append_left _ (List.mem_of_getElem? (i := 3) (by first | rfl | decide +kernel))))) (hts (.static arraycopyName) (List.mem_cons_of_mem _ (List.mem_append_left _ (List.mem_of_getElem? (i := 4) (by first | rfl | decide +kernel))))) (hts (.initialized "java/lang/System") (List.mem_cons_of_mem _ (List.mem_append_left _ (List.mem_of_getElem? (i := 5) (by first | rfl | decide +kernel))))) hK hP hD hS 5 1 0 0 rfl rfl rfl rfl rfl (nn_iv (iv_lit (0 : Int32) (by decide) : iv (0 : Int32) 0 0) (by decide)) (nn_iv (iv_lit (0 : Int32) (by decide) : iv (0 : Int32) 0 0) (by decide)) (nn_iv (iv_lit (8 : Int32) (by decide) : iv (8 : Int32) 8 8) (by decide)) (cp_iv (iv_lit (0 : Int32) (by decide) : iv (0 : Int32) 0 0) (iv_lit (8 : Int32) (by decide) : iv (8 : Int32) 8 8) (by decide) (by decide) (by decide)) (cp_iv (iv_lit (0 : Int32) (by decide) : iv (0 : Int32) 0 0) (iv_lit (8 : Int32) (by decide) : iv (8 : Int32) 8 8) (by decide) (by decide) (by decide)) (fun _ _ => rfl) (Nat.le_of_ble_eq_true rfl) (by decide) dX7_copyFrom_20 (fun H locs hP hD hS => ?_)
  obtain ⟨f1, ef1⟩ : ∃ z : Nat → Int32, z = va_cpy f_o_who f_this_who (0 : Int32).toNatClampNeg (0 : Int32).toNatClampNeg (8 : Int32).toNatClampNeg := ⟨_, rfl⟩
  replace hR := uy_Ls ef1 hR
  rw [← ef1] at hP hD
  have hP : va_P D vwCl [(q_this, .inr (7, [.ref q_this_who, .ref q_this_behind, .ref q_this_jaw, .int x_o_size])), (q_this_who, .inl (ct 0, 8, .inl f1)), (q_this_behind, .inl (ct 0, 8, .inl f_this_behind)), (q_this_jaw, .inl (ct 0, 8, .inl f_this_jaw)), (q_o, .inr (7, [.ref q_o_who, .ref q_o_behind, .ref q_o_jaw, .int x_o_size])), (q_o_who, .inl (ct 0, 8, .inl f_o_who)), (q_o_behind, .inl (ct 0, 8, .inl f_o_behind)), (q_o_jaw, .inl (ct 0, 8, .inl f_o_jaw))] H := hP
  have hD : va_D A [(q_this, .inr (7, [.ref q_this_who, .ref q_this_behind, .ref q_this_jaw, .int x_o_size])), (q_this_who, .inl (ct 0, 8, .inl f1)), (q_this_behind, .inl (ct 0, 8, .inl f_this_behind)), (q_this_jaw, .inl (ct 0, 8, .inl f_this_jaw)), (q_o, .inr (7, [.ref q_o_who, .ref q_o_behind, .ref q_o_jaw, .int x_o_size])), (q_o_who, .inl (ct 0, 8, .inl f_o_who)), (q_o_behind, .inl (ct 0, 8, .inl f_o_behind)), (q_o_jaw, .inl (ct 0, 8, .inl f_o_jaw))] := hD
  have a_f1 : av f1 8 0 7 := by rw [ef1]; exact av_cpy (n1 := 8) (av_w a_f_o_who (by decide) (by decide) (by decide)) (av_w a_f_this_who (by decide) (by decide) (by decide)) (cp_iv (iv_lit (0 : Int32) (by decide) : iv (0 : Int32) 0 0) (iv_lit (8 : Int32) (by decide) : iv (8 : Int32) 8 8) (by decide) (by decide) (by decide))
  refine lv_aload_n hx hb dX7_copyFrom_23 rfl (lv_at hl 1 rfl) ?_
  refine va_get (D := D) (ci := 7) (v := .ref q_o_behind) (C := RX7) (T := TX7) (N := 4) hx hb hts hin_Seen hown hK hP 4 rfl rfl 1 (by decide) (hts (.fieldLink RX7 15 "GutterSeats$Seen" "behind" "[I") (List.mem_cons_of_mem _ (List.mem_append_left _ (List.mem_of_getElem? (i := 6) (by first | rfl | decide +kernel))))) (fun _ h9 => h9) rfl dX7_copyFrom_24 ?_
  refine lv_iconst (v := 0) hx hb dX7_copyFrom_27 (by decide) ?_
  refine lv_aload_n hx hb dX7_copyFrom_28 rfl (lv_at hl 0 rfl) ?_
  refine va_get (D := D) (ci := 7) (v := .ref q_this_behind) (C := RX7) (T := TX7) (N := 4) hx hb hts hin_Seen hown hK hP 0 rfl rfl 1 (by decide) (hts (.fieldLink RX7 15 "GutterSeats$Seen" "behind" "[I") (List.mem_cons_of_mem _ (List.mem_append_left _ (List.mem_of_getElem? (i := 6) (by first | rfl | decide +kernel))))) (fun _ h9 => h9) rfl dX7_copyFrom_29 ?_
  refine lv_iconst (v := 0) hx hb dX7_copyFrom_32 (by decide) ?_
  refine lv_bipush (v := 8) hx hb dX7_copyFrom_33 (by decide) ?_
  refine va_copyi (rest := []) hx hb (by rw [hml]; exact hl.1.symm) hown (hts (.methodLink RX7 38 arraycopyName) (List.mem_cons_of_mem _ (List.mem_append_left _ (List.mem_of_getElem? (i := 2) (by first | rfl | decide +kernel))))) (hts (.native arraycopyName) (List.mem_cons_of_mem _ (List.mem_append_left _ (List.mem_of_getElem? (i := 3) (by first | rfl | decide +kernel))))) (hts (.static arraycopyName) (List.mem_cons_of_mem _ (List.mem_append_left _ (List.mem_of_getElem? (i := 4) (by first | rfl | decide +kernel))))) (hts (.initialized "java/lang/System") (List.mem_cons_of_mem _ (List.mem_append_left _ (List.mem_of_getElem? (i := 5) (by first | rfl | decide +kernel))))) hK hP hD hS 6 2 0 0 rfl rfl rfl rfl rfl (nn_iv (iv_lit (0 : Int32) (by decide) : iv (0 : Int32) 0 0) (by decide)) (nn_iv (iv_lit (0 : Int32) (by decide) : iv (0 : Int32) 0 0) (by decide)) (nn_iv (iv_lit (8 : Int32) (by decide) : iv (8 : Int32) 8 8) (by decide)) (cp_iv (iv_lit (0 : Int32) (by decide) : iv (0 : Int32) 0 0) (iv_lit (8 : Int32) (by decide) : iv (8 : Int32) 8 8) (by decide) (by decide) (by decide)) (cp_iv (iv_lit (0 : Int32) (by decide) : iv (0 : Int32) 0 0) (iv_lit (8 : Int32) (by decide) : iv (8 : Int32) 8 8) (by decide) (by decide) (by decide)) (fun _ _ => rfl) (Nat.le_of_ble_eq_true rfl) (by decide) dX7_copyFrom_35 (fun H locs hP hD hS => ?_)
  obtain ⟨f2, ef2⟩ : ∃ z : Nat → Int32, z = va_cpy f_o_behind f_this_behind (0 : Int32).toNatClampNeg (0 : Int32).toNatClampNeg (8 : Int32).toNatClampNeg := ⟨_, rfl⟩
  replace hR := uy_Ls ef2 hR
  rw [← ef2] at hP hD
  have hP : va_P D vwCl [(q_this, .inr (7, [.ref q_this_who, .ref q_this_behind, .ref q_this_jaw, .int x_o_size])), (q_this_who, .inl (ct 0, 8, .inl f1)), (q_this_behind, .inl (ct 0, 8, .inl f2)), (q_this_jaw, .inl (ct 0, 8, .inl f_this_jaw)), (q_o, .inr (7, [.ref q_o_who, .ref q_o_behind, .ref q_o_jaw, .int x_o_size])), (q_o_who, .inl (ct 0, 8, .inl f_o_who)), (q_o_behind, .inl (ct 0, 8, .inl f_o_behind)), (q_o_jaw, .inl (ct 0, 8, .inl f_o_jaw))] H := hP
  have hD : va_D A [(q_this, .inr (7, [.ref q_this_who, .ref q_this_behind, .ref q_this_jaw, .int x_o_size])), (q_this_who, .inl (ct 0, 8, .inl f1)), (q_this_behind, .inl (ct 0, 8, .inl f2)), (q_this_jaw, .inl (ct 0, 8, .inl f_this_jaw)), (q_o, .inr (7, [.ref q_o_who, .ref q_o_behind, .ref q_o_jaw, .int x_o_size])), (q_o_who, .inl (ct 0, 8, .inl f_o_who)), (q_o_behind, .inl (ct 0, 8, .inl f_o_behind)), (q_o_jaw, .inl (ct 0, 8, .inl f_o_jaw))] := hD
  have a_f2 : av f2 8 0 20 := by rw [ef2]; exact av_cpy (n1 := 8) (av_w a_f_o_behind (by decide) (by decide) (by decide)) (av_w a_f_this_behind (by decide) (by decide) (by decide)) (cp_iv (iv_lit (0 : Int32) (by decide) : iv (0 : Int32) 0 0) (iv_lit (8 : Int32) (by decide) : iv (8 : Int32) 8 8) (by decide) (by decide) (by decide))
  refine lv_aload_n hx hb dX7_copyFrom_38 rfl (lv_at hl 1 rfl) ?_
  refine va_get (D := D) (ci := 7) (v := .ref q_o_jaw) (C := RX7) (T := TX7) (N := 4) hx hb hts hin_Seen hown hK hP 4 rfl rfl 2 (by decide) (hts (.fieldLink RX7 18 "GutterSeats$Seen" "jaw" "[I") (List.mem_cons_of_mem _ (List.mem_append_left _ (List.mem_of_getElem? (i := 7) (by first | rfl | decide +kernel))))) (fun _ h9 => h9) rfl dX7_copyFrom_39 ?_
  refine lv_iconst (v := 0) hx hb dX7_copyFrom_42 (by decide) ?_
  refine lv_aload_n hx hb dX7_copyFrom_43 rfl (lv_at hl 0 rfl) ?_
  refine va_get (D := D) (ci := 7) (v := .ref q_this_jaw) (C := RX7) (T := TX7) (N := 4) hx hb hts hin_Seen hown hK hP 0 rfl rfl 2 (by decide) (hts (.fieldLink RX7 18 "GutterSeats$Seen" "jaw" "[I") (List.mem_cons_of_mem _ (List.mem_append_left _ (List.mem_of_getElem? (i := 7) (by first | rfl | decide +kernel))))) (fun _ h9 => h9) rfl dX7_copyFrom_44 ?_
  refine lv_iconst (v := 0) hx hb dX7_copyFrom_47 (by decide) ?_
  refine lv_bipush (v := 8) hx hb dX7_copyFrom_48 (by decide) ?_
  refine va_copyi (rest := []) hx hb (by rw [hml]; exact hl.1.symm) hown (hts (.methodLink RX7 38 arraycopyName) (List.mem_cons_of_mem _ (List.mem_append_left _ (List.mem_of_getElem? (i := 2) (by first | rfl | decide +kernel))))) (hts (.native arraycopyName) (List.mem_cons_of_mem _ (List.mem_append_left _ (List.mem_of_getElem? (i := 3) (by first | rfl | decide +kernel))))) (hts (.static arraycopyName) (List.mem_cons_of_mem _ (List.mem_append_left _ (List.mem_of_getElem? (i := 4) (by first | rfl | decide +kernel))))) (hts (.initialized "java/lang/System") (List.mem_cons_of_mem _ (List.mem_append_left _ (List.mem_of_getElem? (i := 5) (by first | rfl | decide +kernel))))) hK hP hD hS 7 3 0 0 rfl rfl rfl rfl rfl (nn_iv (iv_lit (0 : Int32) (by decide) : iv (0 : Int32) 0 0) (by decide)) (nn_iv (iv_lit (0 : Int32) (by decide) : iv (0 : Int32) 0 0) (by decide)) (nn_iv (iv_lit (8 : Int32) (by decide) : iv (8 : Int32) 8 8) (by decide)) (cp_iv (iv_lit (0 : Int32) (by decide) : iv (0 : Int32) 0 0) (iv_lit (8 : Int32) (by decide) : iv (8 : Int32) 8 8) (by decide) (by decide) (by decide)) (cp_iv (iv_lit (0 : Int32) (by decide) : iv (0 : Int32) 0 0) (iv_lit (8 : Int32) (by decide) : iv (8 : Int32) 8 8) (by decide) (by decide) (by decide)) (fun _ _ => rfl) (Nat.le_of_ble_eq_true rfl) (by decide) dX7_copyFrom_50 (fun H locs hP hD hS => ?_)
  obtain ⟨f3, ef3⟩ : ∃ z : Nat → Int32, z = va_cpy f_o_jaw f_this_jaw (0 : Int32).toNatClampNeg (0 : Int32).toNatClampNeg (8 : Int32).toNatClampNeg := ⟨_, rfl⟩
  replace hR := uy_Ls ef3 hR
  rw [← ef3] at hP hD
  have hP : va_P D vwCl [(q_this, .inr (7, [.ref q_this_who, .ref q_this_behind, .ref q_this_jaw, .int x_o_size])), (q_this_who, .inl (ct 0, 8, .inl f1)), (q_this_behind, .inl (ct 0, 8, .inl f2)), (q_this_jaw, .inl (ct 0, 8, .inl f3)), (q_o, .inr (7, [.ref q_o_who, .ref q_o_behind, .ref q_o_jaw, .int x_o_size])), (q_o_who, .inl (ct 0, 8, .inl f_o_who)), (q_o_behind, .inl (ct 0, 8, .inl f_o_behind)), (q_o_jaw, .inl (ct 0, 8, .inl f_o_jaw))] H := hP
  have hD : va_D A [(q_this, .inr (7, [.ref q_this_who, .ref q_this_behind, .ref q_this_jaw, .int x_o_size])), (q_this_who, .inl (ct 0, 8, .inl f1)), (q_this_behind, .inl (ct 0, 8, .inl f2)), (q_this_jaw, .inl (ct 0, 8, .inl f3)), (q_o, .inr (7, [.ref q_o_who, .ref q_o_behind, .ref q_o_jaw, .int x_o_size])), (q_o_who, .inl (ct 0, 8, .inl f_o_who)), (q_o_behind, .inl (ct 0, 8, .inl f_o_behind)), (q_o_jaw, .inl (ct 0, 8, .inl f_o_jaw))] := hD
  exact hE (f1, f2, f3, x_o_size) _ _ _ _ ⟨a_f1, a_f2, i_x_o_size, (show x_o_size = x_o_size from rfl), ((uy_Q0 hR).symm.trans hRe)⟩ hP hD hS dX7_copyFrom_53
