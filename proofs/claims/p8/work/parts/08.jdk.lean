abbrev rm_J6_bitCount : Room := { frames := 0, cells := 0, slots := 0, locals := 0 }
set_option maxHeartbeats 4000000 in
set_option maxRecDepth 100000 in
theorem c_J6_bitCount (l : Launch) (D : va_G) (ct : Nat → ClassId) (p1 : Int32) : cP l yJ6_bitCount_0f7a4 wsJ6_bitCount_0f7a4 rm_J6_bitCount D ct [] [.int p1] (fun r : Int32 => r = m_J6_bitCount p1) := by
  refine cP_of (cc := cJ6_bitCount_0f7a4) (maxL := 1) (by decide) rfl (Nat.le_of_ble_eq_true rfl) ?_
  intro p e s m args below meth c Q hx hb hml hts hown hK hP hE ls hl
  have hl : lv_has ls 1 [(0, .int p1)] := hl
  obtain ⟨R, hRe⟩ : ∃ R : (Int32), R = m_J6_bitCount p1 := ⟨_, rfl⟩
  have hR : uy_Q R (fun z : (Int32) => z) (m_J6_bitCount p1) := hRe
  delta m_J6_bitCount at hR
  refine lv_iload_n hx hb dJ6_bitCount_0f7a4_0 rfl (lv_at hl 0 rfl) ?_
  refine lv_iload_n hx hb dJ6_bitCount_0f7a4_1 rfl (lv_at hl 0 rfl) ?_
  refine lv_iconst (v := 1) hx hb dJ6_bitCount_0f7a4_2 (by decide) ?_
  refine lv_iushr hx hb dJ6_bitCount_0f7a4_3 rfl ?_
  refine lv_topi (fun x1 ex1 => ?_)
  replace hR := uy_Ls ex1 hR
  refine lv_ldcw (v := 1431655765) hx hb hown (hts (.constant RJ6 265 (1431655765)) (by decide +kernel)) dJ6_bitCount_0f7a4_4 ?_
  refine lv_iand hx hb dJ6_bitCount_0f7a4_7 ?_
  refine lv_topi (fun x2 ex2 => ?_)
  replace hR := uy_Ls ex2 hR
  have i_x2 : iv x2 0 1431655765 := iv_and ex2 (iv_lit (1431655765 : Int32) (by decide) : iv (1431655765 : Int32) 1431655765 1431655765) (by decide)
  refine lv_isub hx hb dJ6_bitCount_0f7a4_8 ?_
  refine lv_topi (fun x3 ex3 => ?_)
  replace hR := uy_Ls ex3 hR
  refine lv_istore_n (lv' := [(0, .int x3)]) hx hb dJ6_bitCount_0f7a4_9 rfl hl (by decide) rfl (fun ls hl => ?_)
  refine lv_iload_n hx hb dJ6_bitCount_0f7a4_10 rfl (lv_at hl 0 rfl) ?_
  refine lv_ldcw (v := 858993459) hx hb hown (hts (.constant RJ6 266 (858993459)) (by decide +kernel)) dJ6_bitCount_0f7a4_11 ?_
  refine lv_iand hx hb dJ6_bitCount_0f7a4_14 ?_
  refine lv_topi (fun x4 ex4 => ?_)
  replace hR := uy_Ls ex4 hR
  have i_x4 : iv x4 0 858993459 := iv_and ex4 (iv_lit (858993459 : Int32) (by decide) : iv (858993459 : Int32) 858993459 858993459) (by decide)
  refine lv_iload_n hx hb dJ6_bitCount_0f7a4_15 rfl (lv_at hl 0 rfl) ?_
  refine lv_iconst (v := 2) hx hb dJ6_bitCount_0f7a4_16 (by decide) ?_
  refine lv_iushr hx hb dJ6_bitCount_0f7a4_17 rfl ?_
  refine lv_topi (fun x5 ex5 => ?_)
  replace hR := uy_Ls ex5 hR
  refine lv_ldcw (v := 858993459) hx hb hown (hts (.constant RJ6 266 (858993459)) (by decide +kernel)) dJ6_bitCount_0f7a4_18 ?_
  refine lv_iand hx hb dJ6_bitCount_0f7a4_21 ?_
  refine lv_topi (fun x6 ex6 => ?_)
  replace hR := uy_Ls ex6 hR
  have i_x6 : iv x6 0 858993459 := iv_and ex6 (iv_lit (858993459 : Int32) (by decide) : iv (858993459 : Int32) 858993459 858993459) (by decide)
  refine lv_iadd hx hb dJ6_bitCount_0f7a4_22 ?_
  refine lv_topi (fun x7 ex7 => ?_)
  replace hR := uy_Ls ex7 hR
  have i_x7 : iv x7 0 1717986918 := iv_add ex7 i_x4 i_x6 (by decide) (by decide) (by decide) (by decide)
  refine lv_istore_n (lv' := [(0, .int x7)]) hx hb dJ6_bitCount_0f7a4_23 rfl hl (by decide) rfl (fun ls hl => ?_)
  refine lv_iload_n hx hb dJ6_bitCount_0f7a4_24 rfl (lv_at hl 0 rfl) ?_
  refine lv_iload_n hx hb dJ6_bitCount_0f7a4_25 rfl (lv_at hl 0 rfl) ?_
  refine lv_iconst (v := 4) hx hb dJ6_bitCount_0f7a4_26 (by decide) ?_
  refine lv_iushr hx hb dJ6_bitCount_0f7a4_27 rfl ?_
  refine lv_topi (fun x8 ex8 => ?_)
  replace hR := uy_Ls ex8 hR
  refine lv_iadd hx hb dJ6_bitCount_0f7a4_28 ?_
  refine lv_topi (fun x9 ex9 => ?_)
  replace hR := uy_Ls ex9 hR
  refine lv_ldcw (v := 252645135) hx hb hown (hts (.constant RJ6 267 (252645135)) (by decide +kernel)) dJ6_bitCount_0f7a4_29 ?_
  refine lv_iand hx hb dJ6_bitCount_0f7a4_32 ?_
  refine lv_topi (fun x10 ex10 => ?_)
  replace hR := uy_Ls ex10 hR
  have i_x10 : iv x10 0 252645135 := iv_and ex10 (iv_lit (252645135 : Int32) (by decide) : iv (252645135 : Int32) 252645135 252645135) (by decide)
  refine lv_istore_n (lv' := [(0, .int x10)]) hx hb dJ6_bitCount_0f7a4_33 rfl hl (by decide) rfl (fun ls hl => ?_)
  refine lv_iload_n hx hb dJ6_bitCount_0f7a4_34 rfl (lv_at hl 0 rfl) ?_
  refine lv_iload_n hx hb dJ6_bitCount_0f7a4_35 rfl (lv_at hl 0 rfl) ?_
  refine lv_bipush (v := 8) hx hb dJ6_bitCount_0f7a4_36 (by decide) ?_
  refine lv_iushr hx hb dJ6_bitCount_0f7a4_38 rfl ?_
  refine lv_topi (fun x11 ex11 => ?_)
  replace hR := uy_Ls ex11 hR
  refine lv_iadd hx hb dJ6_bitCount_0f7a4_39 ?_
  refine lv_topi (fun x12 ex12 => ?_)
  replace hR := uy_Ls ex12 hR
  refine lv_istore_n (lv' := [(0, .int x12)]) hx hb dJ6_bitCount_0f7a4_40 rfl hl (by decide) rfl (fun ls hl => ?_)
  refine lv_iload_n hx hb dJ6_bitCount_0f7a4_41 rfl (lv_at hl 0 rfl) ?_
  refine lv_iload_n hx hb dJ6_bitCount_0f7a4_42 rfl (lv_at hl 0 rfl) ?_
  refine lv_bipush (v := 16) hx hb dJ6_bitCount_0f7a4_43 (by decide) ?_
  refine lv_iushr hx hb dJ6_bitCount_0f7a4_45 rfl ?_
  refine lv_topi (fun x13 ex13 => ?_)
  replace hR := uy_Ls ex13 hR
  refine lv_iadd hx hb dJ6_bitCount_0f7a4_46 ?_
  refine lv_topi (fun x14 ex14 => ?_)
  replace hR := uy_Ls ex14 hR
  refine lv_istore_n (lv' := [(0, .int x14)]) hx hb dJ6_bitCount_0f7a4_47 rfl hl (by decide) rfl (fun ls hl => ?_)
  refine lv_iload_n hx hb dJ6_bitCount_0f7a4_48 rfl (lv_at hl 0 rfl) ?_
  refine lv_bipush (v := 63) hx hb dJ6_bitCount_0f7a4_49 (by decide) ?_
  refine lv_iand hx hb dJ6_bitCount_0f7a4_51 ?_
  refine lv_topi (fun x15 ex15 => ?_)
  replace hR := uy_Ls ex15 hR
  have i_x15 : iv x15 0 63 := iv_and ex15 (iv_lit (63 : Int32) (by decide) : iv (63 : Int32) 63 63) (by decide)
  exact hE _ _ _ ((uy_Q0 hR).symm.trans hRe) dJ6_bitCount_0f7a4_52
abbrev rm_J6_compare : Room := { frames := 0, cells := 0, slots := 0, locals := 0 }
set_option maxHeartbeats 4000000 in
set_option maxRecDepth 100000 in
theorem c_J6_compare (l : Launch) (D : va_G) (ct : Nat → ClassId) (p1 p2 : Int32) : cP l yJ6_compare_7cf53 wsJ6_compare_7cf53 rm_J6_compare D ct [] [.int p1, .int p2] (fun r : Int32 => iv r (-1) 1 ∧ r = m_J6_compare p1 p2) := by
  refine cP_of (cc := cJ6_compare_7cf53) (maxL := 2) (by decide) rfl (Nat.le_of_ble_eq_true rfl) ?_
  intro p e s m args below meth c Q hx hb hml hts hown hK hP hE ls hl
  have hl : lv_has ls 2 [(0, .int p1), (1, .int p2)] := hl
  obtain ⟨R, hRe⟩ : ∃ R : (Int32), R = m_J6_compare p1 p2 := ⟨_, rfl⟩
  have hR : uy_Q R (fun z : (Int32) => z) (m_J6_compare p1 p2) := hRe
  delta m_J6_compare at hR
  refine lv_iload_n hx hb dJ6_compare_7cf53_0 rfl (lv_at hl 0 rfl) ?_
  refine lv_iload_n hx hb dJ6_compare_7cf53_1 rfl (lv_at hl 1 rfl) ?_
  refine lv_icmp_ge (tgt := 9) hx hb dJ6_compare_7cf53_2 (by decide) (fun c1 => ?_) (fun c1 => ?_)
  ·
    replace hR := uy_Qp c1 hR
    refine lv_iload_n hx hb dJ6_compare_7cf53_9 rfl (lv_at hl 0 rfl) ?_
    refine lv_iload_n hx hb dJ6_compare_7cf53_10 rfl (lv_at hl 1 rfl) ?_
    refine lv_icmp_ne (tgt := 18) hx hb dJ6_compare_7cf53_11 (by decide) (fun c2 => ?_) (fun c2 => ?_)
    ·
      replace hR := uy_Qn c2 hR
      refine lv_iconst (v := 1) hx hb dJ6_compare_7cf53_18 (by decide) ?_
      exact hE _ _ _ ⟨(iv_lit (1 : Int32) (by decide) : iv (1 : Int32) (-1) 1), ((uy_Q0 hR).symm.trans hRe)⟩ dJ6_compare_7cf53_19
    ·
      replace hR := uy_Qp c2 hR
      refine lv_iconst (v := 0) hx hb dJ6_compare_7cf53_14 (by decide) ?_
      refine lv_goto (tgt := 19) hx hb dJ6_compare_7cf53_15 (by decide) ?_
      exact hE _ _ _ ⟨(iv_lit (0 : Int32) (by decide) : iv (0 : Int32) (-1) 1), ((uy_Q0 hR).symm.trans hRe)⟩ dJ6_compare_7cf53_19
  ·
    replace hR := uy_Qn c1 hR
    have j3 : iv p1 (-2147483648) 2147483646 := iv_ltL (iv_nle c1) (iv_any p1) (iv_any p2) (by decide)
    have j4 : iv p2 (-2147483647) 2147483647 := iv_ltR (iv_nle c1) (iv_any p1) (iv_any p2) (by decide)
    refine lv_iconst (v := -1) hx hb dJ6_compare_7cf53_5 (by decide) ?_
    refine lv_goto (tgt := 19) hx hb dJ6_compare_7cf53_6 (by decide) ?_
    exact hE _ _ _ ⟨(iv_lit (-1 : Int32) (by decide) : iv (-1 : Int32) (-1) 1), ((uy_Q0 hR).symm.trans hRe)⟩ dJ6_compare_7cf53_19
