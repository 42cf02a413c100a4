theorem gg11_J7_fill_53178 : GoodIn gT11 wsJ7_fill_53178 := goodIn_r _ [684] (by decide +kernel) (by decide +kernel)
abbrev rm_J7_fill : Room := { frames := 0, cells := 0, slots := 0, locals := 0 }
set_option maxHeartbeats 4000000 in
set_option maxRecDepth 100000 in
theorem c_J7_fill (l : Launch) (D : va_G) (ct : Nat → ClassId) (q_arr : Nat) (sz : Nat) (f_arr : Nat → Int32) (p2 : Int32) : cV l yJ7_fill_53178 wsJ7_fill_53178 rm_J7_fill D ct [(q_arr, .inl (ct 0, 8, .inl f_arr))] sz [.ref q_arr, .int p2] (fun u : (Nat → Int32) => True) (fun u : (Nat → Int32) => [(q_arr, .inl (ct 0, 8, .inl u))]) := by
  refine cV_of (cc := cJ7_fill_53178) (maxL := 4) (by decide) rfl (Nat.le_of_ble_eq_true rfl) ?_
  intro p e s m args below meth c Q A hx hb hml hts hown hK hP hD hA hAe hsz hname hE ls hl
  have hS : va_S A s.heap s.heap [] := va_S.rf
  have hP : va_P D vwCl [(q_arr, .inl (ct 0, 8, .inl f_arr))] s.heap := hP
  have hD : va_D A [(q_arr, .inl (ct 0, 8, .inl f_arr))] := hD
  have hl : lv_has ls 4 [(0, .ref q_arr), (1, .int p2)] := hl
  have K5 : ∀ (n5 : Nat) (v2c5 v3c5 : Int32) (f_arrc5 : Nat → Int32) (H : Heap) (locs : List Loc) (ls : Array Slot), iv v2c5 0 8 → iv v3c5 8 8 → (8 - v2c5.toInt).toNat < n5 → va_P D vwCl [(q_arr, .inl (ct 0, 8, .inl f_arrc5))] H → va_D A [(q_arr, .inl (ct 0, 8, .inl f_arrc5))] → va_S A s.heap H locs → lv_has ls 4 [(0, .ref q_arr), (1, .int p2), (2, .int v2c5), (3, .int v3c5)] → W p l e rm_J7_fill s m args below meth c H locs 0 0 Q (F0 m 5 ls []) := by
    intro n5
    induction n5 with
    | zero => intro v2c5 v3c5 f_arrc5 H locs ls i_v2c5 i_v3c5 hm5 hP hD hS hl; exact absurd hm5 (Nat.not_lt_zero _)
    | succ n5 ih5 =>
      intro v2c5 v3c5 f_arrc5 H locs ls i_v2c5 i_v3c5 hm5 hP hD hS hl
      refine lv_iload_n hx hb dJ7_fill_53178_5 rfl (lv_at hl 2 rfl) ?_
      refine lv_iload_n hx hb dJ7_fill_53178_6 rfl (lv_at hl 3 rfl) ?_
      refine lv_icmp_ge (tgt := 20) hx hb dJ7_fill_53178_7 (by decide) (fun c1 => ?_) (fun c1 => ?_)
      ·
        have j2 : iv v2c5 8 8 := iv_leR c1 i_v3c5 i_v2c5 (by decide)
        exact hE f_arrc5 _ _ _ _ trivial hP hD hS dJ7_fill_53178_20
      ·
        have j3 : iv v2c5 0 7 := iv_ltL (iv_nle c1) i_v2c5 i_v3c5 (by decide)
        refine lv_aload_n hx hb dJ7_fill_53178_10 rfl (lv_at hl 0 rfl) ?_
        refine lv_iload_n hx hb dJ7_fill_53178_11 rfl (lv_at hl 2 rfl) ?_
        refine lv_iload_n hx hb dJ7_fill_53178_12 rfl (lv_at hl 1 rfl) ?_
        have n4 : vp_in v2c5 8 := iv_in j3 (by decide) (by decide)
        refine va_iast hx hb hK hP hD hS 0 0 rfl rfl n4 dJ7_fill_53178_13 (fun H locs hP hD hS => ?_)
        obtain ⟨f5, ef5⟩ : ∃ z : Nat → Int32, z = upd f_arrc5 v2c5.toNatClampNeg p2 := ⟨_, rfl⟩
        rw [← ef5] at hP hD
        have hP : va_P D vwCl [(q_arr, .inl (ct 0, 8, .inl f5))] H := hP
        have hD : va_D A [(q_arr, .inl (ct 0, 8, .inl f5))] := hD
        obtain ⟨x6, ex6⟩ : ∃ z : Int32, z = v2c5 + (1 : Int32) := ⟨_, rfl⟩
        refine lv_iinc (v := x6) (lv' := [(2, .int x6), (0, .ref q_arr), (1, .int p2), (3, .int v3c5)]) hx hb dJ7_fill_53178_14 hl (k := 2) rfl (by rw [ex6]; rfl) (by decide) rfl (fun ls hl => ?_)
        have i_x6 : iv x6 1 8 := iv_add ex6 j3 (iv_lit (1 : Int32) (by decide) : iv (1 : Int32) 1 1) (by decide) (by decide) (by decide) (by decide)
        refine lv_goto (tgt := 5) hx hb dJ7_fill_53178_17 (by decide) ?_
        exact ih5 x6 v3c5 f5 _ _ ls (iv_w i_x6 (by decide) (by decide)) i_v3c5 (ms_up ex6 j3 (by decide) (by decide) hm5) hP hD hS (lv_sub hl [1, 2, 0, 3] rfl)
  refine lv_iconst (v := 0) hx hb dJ7_fill_53178_0 (by decide) ?_
  refine lv_istore_n (lv' := [(2, .int (0 : Int32)), (0, .ref q_arr), (1, .int p2)]) hx hb dJ7_fill_53178_1 rfl hl (by decide) rfl (fun ls hl => ?_)
  refine lv_aload_n hx hb dJ7_fill_53178_2 rfl (lv_at hl 1 rfl) ?_
  refine va_alen hx hb hK hP 0 0 rfl rfl (v := 8) rfl dJ7_fill_53178_3 ?_
  refine lv_istore_n (lv' := [(3, .int (8 : Int32)), (2, .int (0 : Int32)), (0, .ref q_arr), (1, .int p2)]) hx hb dJ7_fill_53178_4 rfl hl (by decide) rfl (fun ls hl => ?_)
  exact K5 _ (0 : Int32) (8 : Int32) f_arr _ _ ls (iv_lit (0 : Int32) (by decide) : iv (0 : Int32) 0 8) (iv_lit (8 : Int32) (by decide) : iv (8 : Int32) 8 8) (Nat.lt_succ_self _) hP hD hS (lv_sub hl [2, 3, 1, 0] rfl)
