abbrev rm_Model_takeHalf12 : Room := { frames := 0, cells := 0, slots := 0, locals := 0 }
abbrev wgX12_takeHalf : List Cond := .code yX12_takeHalf cX12_takeHalf 2 none :: gT12
set_option maxHeartbeats 4000000 in
set_option maxRecDepth 100000 in
theorem c_Model_takeHalf12 (l : Launch) (D : va_G) (ct : Nat → ClassId) (q_row : Nat) (sz : Nat) (f_row : Nat → Int32) : cV l yX12_takeHalf wgX12_takeHalf rm_Model_takeHalf12 D ct [(q_row, .inl (ct 0, 12, .inl f_row))] sz [.ref q_row] (fun u : (Nat → Int32) => ((∀ j : Nat, j < 6 → u j = f_row (6 + j)) ∧ (∀ j : Nat, 6 ≤ j → u j = f_row j))) (fun u : (Nat → Int32) => [(q_row, .inl (ct 0, 12, .inl u))]) := by
  refine cV_of (cc := cX12_takeHalf) (maxL := 2) (by decide) rfl (Nat.le_of_ble_eq_true rfl) ?_
  intro p e s m args below meth c Q A hx hb hml hts hown hK hP hD hA hAe hsz hname hE ls hl
  have hS : va_S A s.heap s.heap [] := va_S.rf
  have hP : va_P D vwCl [(q_row, .inl (ct 0, 12, .inl f_row))] s.heap := hP
  have hD : va_D A [(q_row, .inl (ct 0, 12, .inl f_row))] := hD
  have mG : ∀ (i : Nat) {w : Cond}, gT12[i]? = some w → w ∈ wgX12_takeHalf := fun i w h => List.mem_cons_of_mem _ (List.mem_of_getElem? h)
  have hl : lv_has ls 2 [(0, .ref q_row)] := hl
  have K2 : ∀ (n2 : Nat) (v1c2 : Int32) (f_rowc2 : Nat → Int32) (H : Heap) (locs : List Loc) (ls : Array Slot), iv v1c2 0 6 → (6 - v1c2.toInt).toNat < n2 → (∀ j : Nat, ((j : Int) < v1c2.toInt → f_rowc2 j = f_row (6 + j)) ∧ (v1c2.toInt ≤ (j : Int) → f_rowc2 j = f_row j)) → va_P D vwCl [(q_row, .inl (ct 0, 12, .inl f_rowc2))] H → va_D A [(q_row, .inl (ct 0, 12, .inl f_rowc2))] → va_S A s.heap H locs → lv_has ls 2 [(0, .ref q_row), (1, .int v1c2)] → W p l e rm_Model_takeHalf12 s m args below meth c H locs 0 0 Q (F0 m 2 ls []) := by
    intro n2
    induction n2 with
    | zero => intro v1c2 f_rowc2 H locs ls i_v1c2 hm2 rl2_0 hP hD hS hl; exact absurd hm2 (Nat.not_lt_zero _)
    | succ n2 ih2 =>
      intro v1c2 f_rowc2 H locs ls i_v1c2 hm2 rl2_0 hP hD hS hl
      refine lv_iload_n hx hb dX12_takeHalf_2 rfl (lv_at hl 1 rfl) ?_
      refine lv_aload_n hx hb dX12_takeHalf_3 rfl (lv_at hl 0 rfl) ?_
      refine va_alen hx hb hK hP 0 0 rfl rfl (v := 12) rfl dX12_takeHalf_4 ?_
      refine lv_iconst (v := 2) hx hb dX12_takeHalf_5 (by decide) ?_
      refine lv_idiv hx hb dX12_takeHalf_6 (ne0_iv (iv_lit (2 : Int32) (by decide) : iv (2 : Int32) 2 2) (by decide)) ?_
      refine lv_topi (fun x1 ex1 => ?_)
      have i_x1 : iv x1 6 6 := by rw [ex1]; exact (iv_lit ((12 : Int32) / (2 : Int32)) (by decide) : iv ((12 : Int32) / (2 : Int32)) 6 6)
      refine lv_icmp_ge (tgt := 27) hx hb dX12_takeHalf_7 (by decide) (fun c2 => ?_) (fun c2 => ?_)
      ·
        have j3 : iv v1c2 6 6 := iv_leR c2 i_x1 i_v1c2 (by decide)
        exact hE f_rowc2 _ _ _ _ (show (∀ j : Nat, j < 6 → f_rowc2 j = f_row (6 + j)) ∧ (∀ j : Nat, 6 ≤ j → f_rowc2 j = f_row j) from ⟨fun j hj => (rl2_0 j).1 (by have q1 := (j3).1; omega), fun j hj => (rl2_0 j).2 (by have q2 := (j3).2; omega)⟩) hP hD hS dX12_takeHalf_27
      ·
        have j4 : iv v1c2 0 5 := iv_ltL (iv_nle c2) i_v1c2 i_x1 (by decide)
        refine lv_aload_n hx hb dX12_takeHalf_10 rfl (lv_at hl 0 rfl) ?_
        refine lv_iload_n hx hb dX12_takeHalf_11 rfl (lv_at hl 1 rfl) ?_
        refine lv_aload_n hx hb dX12_takeHalf_12 rfl (lv_at hl 0 rfl) ?_
        refine lv_aload_n hx hb dX12_takeHalf_13 rfl (lv_at hl 0 rfl) ?_
        refine va_alen hx hb hK hP 0 0 rfl rfl (v := 12) rfl dX12_takeHalf_14 ?_
        refine lv_iconst (v := 2) hx hb dX12_takeHalf_15 (by decide) ?_
        refine lv_idiv hx hb dX12_takeHalf_16 (ne0_iv (iv_lit (2 : Int32) (by decide) : iv (2 : Int32) 2 2) (by decide)) ?_
        refine lv_topi (fun x5 ex5 => ?_)
        have i_x5 : iv x5 6 6 := by rw [ex5]; exact (iv_lit ((12 : Int32) / (2 : Int32)) (by decide) : iv ((12 : Int32) / (2 : Int32)) 6 6)
        refine lv_iload_n hx hb dX12_takeHalf_17 rfl (lv_at hl 1 rfl) ?_
        refine lv_iadd hx hb dX12_takeHalf_18 ?_
        refine lv_topi (fun x6 ex6 => ?_)
        have i_x6 : iv x6 6 11 := iv_add ex6 i_x5 j4 (by decide) (by decide) (by decide) (by decide)
        have n7 : vp_in x6 12 := iv_in i_x6 (by decide) (by decide)
        refine va_iald hx hb hK hP 0 0 rfl rfl n7 dX12_takeHalf_19 ?_
        refine lv_topi (fun x8 ex8 => ?_)
        have n9 : vp_in v1c2 12 := iv_in j4 (by decide) (by decide)
        refine va_iast hx hb hK hP hD hS 0 0 rfl rfl n9 dX12_takeHalf_20 (fun H locs hP hD hS => ?_)
        obtain ⟨f10, ef10⟩ : ∃ z : Nat → Int32, z = upd f_rowc2 v1c2.toNatClampNeg x8 := ⟨_, rfl⟩
        rw [← ef10] at hP hD
        have hP : va_P D vwCl [(q_row, .inl (ct 0, 12, .inl f10))] H := hP
        have hD : va_D A [(q_row, .inl (ct 0, 12, .inl f10))] := hD
        obtain ⟨x11, ex11⟩ : ∃ z : Int32, z = v1c2 + (1 : Int32) := ⟨_, rfl⟩
        refine lv_iinc (v := x11) (lv' := [(1, .int x11), (0, .ref q_row)]) hx hb dX12_takeHalf_21 hl (k := 1) rfl (by rw [ex11]; rfl) (by decide) rfl (fun ls hl => ?_)
        have i_x11 : iv x11 1 6 := iv_add ex11 j4 (iv_lit (1 : Int32) (by decide) : iv (1 : Int32) 1 1) (by decide) (by decide) (by decide) (by decide)
        refine lv_goto (tgt := 2) hx hb dX12_takeHalf_24 (by decide) ?_
        exact ih2 x11 f10 _ _ ls (iv_w i_x11 (by decide) (by decide)) (ms_up ex11 j4 (by decide) (by decide) hm2) (th_step (Hn := 6) rl2_0 ef10 ex8 ex6 (by have q1 := (i_x5).1; have q2 := (i_x5).2; omega) ex11 j4 (by decide) (by decide)) hP hD hS (lv_sub hl [1, 0] rfl)
  refine lv_iconst (v := 0) hx hb dX12_takeHalf_0 (by decide) ?_
  refine lv_istore_n (lv' := [(1, .int (0 : Int32)), (0, .ref q_row)]) hx hb dX12_takeHalf_1 rfl hl (by decide) rfl (fun ls hl => ?_)
  exact K2 _ (0 : Int32) f_row _ _ ls (iv_lit (0 : Int32) (by decide) : iv (0 : Int32) 0 6) (Nat.lt_succ_self _) (fun j => ⟨fun h => absurd h (by have e : (0 : Int32).toInt = 0 := rfl; omega), fun _ => rfl⟩) hP hD hS (lv_sub hl [1, 0] rfl)
abbrev rm_Model_takeHalf16 : Room := { frames := 0, cells := 0, slots := 0, locals := 0 }
set_option maxHeartbeats 4000000 in
set_option maxRecDepth 100000 in
theorem c_Model_takeHalf16 (l : Launch) (D : va_G) (ct : Nat → ClassId) (q_row : Nat) (sz : Nat) (f_row : Nat → Int32) : cV l yX12_takeHalf wgX12_takeHalf rm_Model_takeHalf16 D ct [(q_row, .inl (ct 0, 16, .inl f_row))] sz [.ref q_row] (fun u : (Nat → Int32) => ((∀ j : Nat, j < 8 → u j = f_row (8 + j)) ∧ (∀ j : Nat, 8 ≤ j → u j = f_row j))) (fun u : (Nat → Int32) => [(q_row, .inl (ct 0, 16, .inl u))]) := by
  refine cV_of (cc := cX12_takeHalf) (maxL := 2) (by decide) rfl (Nat.le_of_ble_eq_true rfl) ?_
  intro p e s m args below meth c Q A hx hb hml hts hown hK hP hD hA hAe hsz hname hE ls hl
  have hS : va_S A s.heap s.heap [] := va_S.rf
  have hP : va_P D vwCl [(q_row, .inl (ct 0, 16, .inl f_row))] s.heap := hP
  have hD : va_D A [(q_row, .inl (ct 0, 16, .inl f_row))] := hD
  have mG : ∀ (i : Nat) {w : Cond}, gT12[i]? = some w → w ∈ wgX12_takeHalf := fun i w h => List.mem_cons_of_mem _ (List.mem_of_getElem? h)
  have hl : lv_has ls 2 [(0, .ref q_row)] := hl
  have K2 : ∀ (n2 : Nat) (v1c2 : Int32) (f_rowc2 : Nat → Int32) (H : Heap) (locs : List Loc) (ls : Array Slot), iv v1c2 0 8 → (8 - v1c2.toInt).toNat < n2 → (∀ j : Nat, ((j : Int) < v1c2.toInt → f_rowc2 j = f_row (8 + j)) ∧ (v1c2.toInt ≤ (j : Int) → f_rowc2 j = f_row j)) → va_P D vwCl [(q_row, .inl (ct 0, 16, .inl f_rowc2))] H → va_D A [(q_row, .inl (ct 0, 16, .inl f_rowc2))] → va_S A s.heap H locs → lv_has ls 2 [(0, .ref q_row), (1, .int v1c2)] → W p l e rm_Model_takeHalf16 s m args below meth c H locs 0 0 Q (F0 m 2 ls []) := by
    intro n2
    induction n2 with
    | zero => intro v1c2 f_rowc2 H locs ls i_v1c2 hm2 rl2_0 hP hD hS hl; exact absurd hm2 (Nat.not_lt_zero _)
    | succ n2 ih2 =>
      intro v1c2 f_rowc2 H locs ls i_v1c2 hm2 rl2_0 hP hD hS hl
      refine lv_iload_n hx hb dX12_takeHalf_2 rfl (lv_at hl 1 rfl) ?_
      refine lv_aload_n hx hb dX12_takeHalf_3 rfl (lv_at hl 0 rfl) ?_
      refine va_alen hx hb hK hP 0 0 rfl rfl (v := 16) rfl dX12_takeHalf_4 ?_
      refine lv_iconst (v := 2) hx hb dX12_takeHalf_5 (by decide) ?_
      refine lv_idiv hx hb dX12_takeHalf_6 (ne0_iv (iv_lit (2 : Int32) (by decide) : iv (2 : Int32) 2 2) (by decide)) ?_
      refine lv_topi (fun x1 ex1 => ?_)
      have i_x1 : iv x1 8 8 := by rw [ex1]; exact (iv_lit ((16 : Int32) / (2 : Int32)) (by decide) : iv ((16 : Int32) / (2 : Int32)) 8 8)
      refine lv_icmp_ge (tgt := 27) hx hb dX12_takeHalf_7 (by decide) (fun c2 => ?_) (fun c2 => ?_)
      ·
        have j3 : iv v1c2 8 8 := iv_leR c2 i_x1 i_v1c2 (by decide)
        exact hE f_rowc2 _ _ _ _ (show (∀ j : Nat, j < 8 → f_rowc2 j = f_row (8 + j)) ∧ (∀ j : Nat, 8 ≤ j → f_rowc2 j = f_row j) from ⟨fun j hj => (rl2_0 j).1 (by have q1 := (j3).1; omega), fun j hj => (rl2_0 j).2 (by have q2 := (j3).2; omega)⟩) hP hD hS dX12_takeHalf_27
      ·
        have j4 : iv v1c2 0 7 := iv_ltL (iv_nle c2) i_v1c2 i_x1 (by decide)
        refine lv_aload_n hx hb dX12_takeHalf_10 rfl (lv_at hl 0 rfl) ?_
        refine lv_iload_n hx hb dX12_takeHalf_11 rfl (lv_at hl 1 rfl) ?_
        refine lv_aload_n hx hb dX12_takeHalf_12 rfl (lv_at hl 0 rfl) ?_
        refine lv_aload_n hx hb dX12_takeHalf_13 rfl (lv_at hl 0 rfl) ?_
        refine va_alen hx hb hK hP 0 0 rfl rfl (v := 16) rfl dX12_takeHalf_14 ?_
        refine lv_iconst (v := 2) hx hb dX12_takeHalf_15 (by decide) ?_
        refine lv_idiv hx hb dX12_takeHalf_16 (ne0_iv (iv_lit (2 : Int32) (by decide) : iv (2 : Int32) 2 2) (by decide)) ?_
        refine lv_topi (fun x5 ex5 => ?_)
        have i_x5 : iv x5 8 8 := by rw [ex5]; exact (iv_lit ((16 : Int32) / (2 : Int32)) (by decide) : iv ((16 : Int32) / (2 : Int32)) 8 8)
        refine lv_iload_n hx hb dX12_takeHalf_17 rfl (lv_at hl 1 rfl) ?_
        refine lv_iadd hx hb dX12_takeHalf_18 ?_
        refine lv_topi (fun x6 ex6 => ?_)
        have i_x6 : iv x6 8 15 := iv_add ex6 i_x5 j4 (by decide) (by decide) (by decide) (by decide)
        have n7 : vp_in x6 16 := iv_in i_x6 (by decide) (by decide)
        refine va_iald hx hb hK hP 0 0 rfl rfl n7 dX12_takeHalf_19 ?_
        refine lv_topi (fun x8 ex8 => ?_)
        have n9 : vp_in v1c2 16 := iv_in j4 (by decide) (by decide)
        refine va_iast hx hb hK hP hD hS 0 0 rfl rfl n9 dX12_takeHalf_20 (fun H locs hP hD hS => ?_)
        obtain ⟨f10, ef10⟩ : ∃ z : Nat → Int32, z = upd f_rowc2 v1c2.toNatClampNeg x8 := ⟨_, rfl⟩
        rw [← ef10] at hP hD
        have hP : va_P D vwCl [(q_row, .inl (ct 0, 16, .inl f10))] H := hP
        have hD : va_D A [(q_row, .inl (ct 0, 16, .inl f10))] := hD
        obtain ⟨x11, ex11⟩ : ∃ z : Int32, z = v1c2 + (1 : Int32) := ⟨_, rfl⟩
        refine lv_iinc (v := x11) (lv' := [(1, .int x11), (0, .ref q_row)]) hx hb dX12_takeHalf_21 hl (k := 1) rfl (by rw [ex11]; rfl) (by decide) rfl (fun ls hl => ?_)
        have i_x11 : iv x11 1 8 := iv_add ex11 j4 (iv_lit (1 : Int32) (by decide) : iv (1 : Int32) 1 1) (by decide) (by decide) (by decide) (by decide)
        refine lv_goto (tgt := 2) hx hb dX12_takeHalf_24 (by decide) ?_
        exact ih2 x11 f10 _ _ ls (iv_w i_x11 (by decide) (by decide)) (ms_up ex11 j4 (by decide) (by decide) hm2) (th_step (Hn := 8) rl2_0 ef10 ex8 ex6 (by have q1 := (i_x5).1; have q2 := (i_x5).2; omega) ex11 j4 (by decide) (by decide)) hP hD hS (lv_sub hl [1, 0] rfl)
  refine lv_iconst (v := 0) hx hb dX12_takeHalf_0 (by decide) ?_
  refine lv_istore_n (lv' := [(1, .int (0 : Int32)), (0, .ref q_row)]) hx hb dX12_takeHalf_1 rfl hl (by decide) rfl (fun ls hl => ?_)
  exact K2 _ (0 : Int32) f_row _ _ ls (iv_lit (0 : Int32) (by decide) : iv (0 : Int32) 0 8) (Nat.lt_succ_self _) (fun j => ⟨fun h => absurd h (by have e : (0 : Int32).toInt = 0 := rfl; omega), fun _ => rfl⟩) hP hD hS (lv_sub hl [1, 0] rfl)
abbrev rm_Model_takeHalf1400 : Room := { frames := 0, cells := 0, slots := 0, locals := 0 }
set_option maxHeartbeats 4000000 in
set_option maxRecDepth 100000 in
theorem c_Model_takeHalf1400 (l : Launch) (D : va_G) (ct : Nat → ClassId) (q_row : Nat) (sz : Nat) (f_row : Nat → Int32) : cV l yX12_takeHalf wgX12_takeHalf rm_Model_takeHalf1400 D ct [(q_row, .inl (ct 0, 1400, .inl f_row))] sz [.ref q_row] (fun u : (Nat → Int32) => ((∀ j : Nat, j < 700 → u j = f_row (700 + j)) ∧ (∀ j : Nat, 700 ≤ j → u j = f_row j))) (fun u : (Nat → Int32) => [(q_row, .inl (ct 0, 1400, .inl u))]) := by
  refine cV_of (cc := cX12_takeHalf) (maxL := 2) (by decide) rfl (Nat.le_of_ble_eq_true rfl) ?_
  intro p e s m args below meth c Q A hx hb hml hts hown hK hP hD hA hAe hsz hname hE ls hl
  have hS : va_S A s.heap s.heap [] := va_S.rf
  have hP : va_P D vwCl [(q_row, .inl (ct 0, 1400, .inl f_row))] s.heap := hP
  have hD : va_D A [(q_row, .inl (ct 0, 1400, .inl f_row))] := hD
  have mG : ∀ (i : Nat) {w : Cond}, gT12[i]? = some w → w ∈ wgX12_takeHalf := fun i w h => List.mem_cons_of_mem _ (List.mem_of_getElem? h)
  have hl : lv_has ls 2 [(0, .ref q_row)] := hl
  have K2 : ∀ (n2 : Nat) (v1c2 : Int32) (f_rowc2 : Nat → Int32) (H : Heap) (locs : List Loc) (ls : Array Slot), iv v1c2 0 700 → (700 - v1c2.toInt).toNat < n2 → (∀ j : Nat, ((j : Int) < v1c2.toInt → f_rowc2 j = f_row (700 + j)) ∧ (v1c2.toInt ≤ (j : Int) → f_rowc2 j = f_row j)) → va_P D vwCl [(q_row, .inl (ct 0, 1400, .inl f_rowc2))] H → va_D A [(q_row, .inl (ct 0, 1400, .inl f_rowc2))] → va_S A s.heap H locs → lv_has ls 2 [(0, .ref q_row), (1, .int v1c2)] → W p l e rm_Model_takeHalf1400 s m args below meth c H locs 0 0 Q (F0 m 2 ls []) := by
    intro n2
    induction n2 with
    | zero => intro v1c2 f_rowc2 H locs ls i_v1c2 hm2 rl2_0 hP hD hS hl; exact absurd hm2 (Nat.not_lt_zero _)
    | succ n2 ih2 =>
      intro v1c2 f_rowc2 H locs ls i_v1c2 hm2 rl2_0 hP hD hS hl
      refine lv_iload_n hx hb dX12_takeHalf_2 rfl (lv_at hl 1 rfl) ?_
      refine lv_aload_n hx hb dX12_takeHalf_3 rfl (lv_at hl 0 rfl) ?_
      refine va_alen hx hb hK hP 0 0 rfl rfl (v := 1400) rfl dX12_takeHalf_4 ?_
      refine lv_iconst (v := 2) hx hb dX12_takeHalf_5 (by decide) ?_
      refine lv_idiv hx hb dX12_takeHalf_6 (ne0_iv (iv_lit (2 : Int32) (by decide) : iv (2 : Int32) 2 2) (by decide)) ?_
      refine lv_topi (fun x1 ex1 => ?_)
      have i_x1 : iv x1 700 700 := by rw [ex1]; exact (iv_lit ((1400 : Int32) / (2 : Int32)) (by decide) : iv ((1400 : Int32) / (2 : Int32)) 700 700)
      refine lv_icmp_ge (tgt := 27) hx hb dX12_takeHalf_7 (by decide) (fun c2 => ?_) (fun c2 => ?_)
      ·
        have j3 : iv v1c2 700 700 := iv_leR c2 i_x1 i_v1c2 (by decide)
        exact hE f_rowc2 _ _ _ _ (show (∀ j : Nat, j < 700 → f_rowc2 j = f_row (700 + j)) ∧ (∀ j : Nat, 700 ≤ j → f_rowc2 j = f_row j) from ⟨fun j hj => (rl2_0 j).1 (by have q1 := (j3).1; omega), fun j hj => (rl2_0 j).2 (by have q2 := (j3).2; omega)⟩) hP hD hS dX12_takeHalf_27
      ·
        have j4 : iv v1c2 0 699 := iv_ltL (iv_nle c2) i_v1c2 i_x1 (by decide)
        refine lv_aload_n hx hb dX12_takeHalf_10 rfl (lv_at hl 0 rfl) ?_
        refine lv_iload_n hx hb dX12_takeHalf_11 rfl (lv_at hl 1 rfl) ?_
        refine lv_aload_n hx hb dX12_takeHalf_12 rfl (lv_at hl 0 rfl) ?_
        refine lv_aload_n hx hb dX12_takeHalf_13 rfl (lv_at hl 0 rfl) ?_
        refine va_alen hx hb hK hP 0 0 rfl rfl (v := 1400) rfl dX12_takeHalf_14 ?_
        refine lv_iconst (v := 2) hx hb dX12_takeHalf_15 (by decide) ?_
        refine lv_idiv hx hb dX12_takeHalf_16 (ne0_iv (iv_lit (2 : Int32) (by decide) : iv (2 : Int32) 2 2) (by decide)) ?_
        refine lv_topi (fun x5 ex5 => ?_)
        have i_x5 : iv x5 700 700 := by rw [ex5]; exact (iv_lit ((1400 : Int32) / (2 : Int32)) (by decide) : iv ((1400 : Int32) / (2 : Int32)) 700 700)
        refine lv_iload_n hx hb dX12_takeHalf_17 rfl (lv_at hl 1 rfl) ?_
        refine lv_iadd hx hb dX12_takeHalf_18 ?_
        refine lv_topi (fun x6 ex6 => ?_)
        have i_x6 : iv x6 700 1399 := iv_add ex6 i_x5 j4 (by decide) (by decide) (by decide) (by decide)
        have n7 : vp_in x6 1400 := iv_in i_x6 (by decide) (by decide)
        refine va_iald hx hb hK hP 0 0 rfl rfl n7 dX12_takeHalf_19 ?_
        refine lv_topi (fun x8 ex8 => ?_)
        have n9 : vp_in v1c2 1400 := iv_in j4 (by decide) (by decide)
        refine va_iast hx hb hK hP hD hS 0 0 rfl rfl n9 dX12_takeHalf_20 (fun H locs hP hD hS => ?_)
        obtain ⟨f10, ef10⟩ : ∃ z : Nat → Int32, z = upd f_rowc2 v1c2.toNatClampNeg x8 := ⟨_, rfl⟩
        rw [← ef10] at hP hD
        have hP : va_P D vwCl [(q_row, .inl (ct 0, 1400, .inl f10))] H := hP
        have hD : va_D A [(q_row, .inl (ct 0, 1400, .inl f10))] := hD
        obtain ⟨x11, ex11⟩ : ∃ z : Int32, z = v1c2 + (1 : Int32) := ⟨_, rfl⟩
        refine lv_iinc (v := x11) (lv' := [(1, .int x11), (0, .ref q_row)]) hx hb dX12_takeHalf_21 hl (k := 1) rfl (by rw [ex11]; rfl) (by decide) rfl (fun ls hl => ?_)
        have i_x11 : iv x11 1 700 := iv_add ex11 j4 (iv_lit (1 : Int32) (by decide) : iv (1 : Int32) 1 1) (by decide) (by decide) (by decide) (by decide)
        refine lv_goto (tgt := 2) hx hb dX12_takeHalf_24 (by decide) ?_
        exact ih2 x11 f10 _ _ ls (iv_w i_x11 (by decide) (by decide)) (ms_up ex11 j4 (by decide) (by decide) hm2) (th_step (Hn := 700) rl2_0 ef10 ex8 ex6 (by have q1 := (i_x5).1; have q2 := (i_x5).2; omega) ex11 j4 (by decide) (by decide)) hP hD hS (lv_sub hl [1, 0] rfl)
  refine lv_iconst (v := 0) hx hb dX12_takeHalf_0 (by decide) ?_
  refine lv_istore_n (lv' := [(1, .int (0 : Int32)), (0, .ref q_row)]) hx hb dX12_takeHalf_1 rfl hl (by decide) rfl (fun ls hl => ?_)
  exact K2 _ (0 : Int32) f_row _ _ ls (iv_lit (0 : Int32) (by decide) : iv (0 : Int32) 0 700) (Nat.lt_succ_self _) (fun j => ⟨fun h => absurd h (by have e : (0 : Int32).toInt = 0 := rfl; omega), fun _ => rfl⟩) hP hD hS (lv_sub hl [1, 0] rfl)
