section LC
variable {p : Program} {l : Launch} {e : Env} {s : State} {m : MethodId} {below : List Frame} {meth : Method} {c : Code} {b L : Nat} {xs : Nat → Int32} {D : va_G} {ct : Nat → ClassId} {ad sw sad : Nat → Nat} {wa : Nat} {A : Nat → Prop} {Q : State → Prop} {ag am qo : Nat} {i : Int32} {cells slots : Nat} {o : OB} {q : OS} {wg wm : va_W} {fo : Nat → Int64} {H : Heap} {locs : List Loc} {ls : Array Slot}
theorem lc_12 (F : LF p l s m c b L xs D ct ad sw sad wa A) (h0 : 0 ≤ i.toInt) (h1 : i.toInt + 6 ≤ (L : Int)) (hL : L ≤ 3072) (hc : cells + 5 ≤ 601024 ∧ slots + 30 ≤ 7293034) (K : LK p l e s m below meth c b ag am qo D ct ad sad A Q i (cells + 5) (slots + 30)) (hG : GI ct ad ag o q wg) (hM : MI ct sad am o q (fun _ => True) wm) (hP : va_P D vwCl ((wg ++ [oc ct qo fo]) ++ wm) H) (hD : va_D A ((wg ++ [oc ct qo fo]) ++ wm)) (hS : va_S A s.heap H locs) (hl : lv_has ls 7 (lvL b ag am qo i)) : W p l e room_1 s m #[Value.ref b] below meth c H locs cells slots Q (F0 m 644 ls []) := by
  obtain ⟨hx, hb, hml, hown, hts, hK, hX, hXm, hst, hA, hXs, hbl, hbA⟩ := F
  have hl : lv_has ls 7 [(0, .ref b), (1, .ref ag), (2, .ref am), (3, .ref qo), (4, .int i)] := hl
  refine lv_aload_n hx hb dL_law_644 rfl (lv_at hl 1 rfl) ?_
  refine lv_aload_n hx hb dL_law_645 rfl (lv_at hl 0 rfl) ?_
  refine lv_iload hx hb dL_law_646 (lv_at hl 4 rfl) ?_
  refine lv_iconst (v := 1) hx hb dL_law_648 (by decide) ?_
  refine lv_iadd hx hb dL_law_649 ?_
  refine va_sld hx hb hXs hbl hbA hS (vin_law h0 h1 hL (by decide)) dL_law_650 ?_
  refine lv_aload_n hx hb dL_law_651 rfl (lv_at hl 0 rfl) ?_
  refine lv_iload hx hb dL_law_652 (lv_at hl 4 rfl) ?_
  refine lv_iconst (v := 2) hx hb dL_law_654 (by decide) ?_
  refine lv_iadd hx hb dL_law_655 ?_
  refine va_sld hx hb hXs hbl hbA hS (vin_law h0 h1 hL (by decide)) dL_law_656 ?_
  refine lv_aload_n hx hb dL_law_657 rfl (lv_at hl 0 rfl) ?_
  refine lv_iload hx hb dL_law_658 (lv_at hl 4 rfl) ?_
  refine lv_iconst (v := 3) hx hb dL_law_660 (by decide) ?_
  refine lv_iadd hx hb dL_law_661 ?_
  refine va_sld hx hb hXs hbl hbA hS (vin_law h0 h1 hL (by decide)) dL_law_662 ?_
  refine lv_aload_n hx hb dL_law_663 rfl (lv_at hl 3 rfl) ?_
  refine kHS (rest := []) (X := wg ++ [oc ct qo fo]) (pl := wm) ⟨hx, hb, hml, hown, hts⟩ (w_then l hst D ct ad sw wa ag qo H.size o q wg fo (xs (i + 1).toNatClampNeg) (xs (i + 2).toNatClampNeg) (xs (i + 3).toNatClampNeg) hG) (vx_cwSW 5 hts kw_W_then rfl rfl rfl (by decide +kernel) ⟨(Nat.le_of_ble_eq_true rfl), (Nat.le_of_ble_eq_true rfl)⟩) (EL_ok ad sw wa) hX hK hP hD hS hA rfl hl.1 rfl (Nat.le_of_ble_eq_true rfl) dL_law_664 ⟨by show cells + 5 ≤ 601024; omega, by show slots + 30 ≤ 7293034; omega⟩ (fun r u H locs hr hP hD hS => ?_)
  obtain ⟨w1, fo1, o1⟩ := u
  have hG1 : GI ct ad ag o q w1 := by
    have h := hr.1
    have e : o1 = o := hr.2
    rw [← e]
    exact h
  have hP : va_P D vwCl ((w1 ++ [oc ct qo fo1]) ++ wm) H := hP
  have hD : va_D A ((w1 ++ [oc ct qo fo1]) ++ wm) := hD
  refine lv_istore (lv' := [(5, .int r), (0, .ref b), (1, .ref ag), (2, .ref am), (3, .ref qo), (4, .int i)]) hx hb dL_law_667 hl (by decide) rfl (fun ls hl => ?_)
  refine lv_aload_n hx hb dL_law_669 rfl (lv_at hl 3 rfl) ?_
  refine lv_aload_n hx hb dL_law_670 rfl (lv_at hl 1 rfl) ?_
  refine lv_iload hx hb dL_law_671 (lv_at hl 5 rfl) ?_
  refine lv_iconst (v := 1) hx hb dL_law_673 (by decide) ?_
  refine lv_iadd hx hb dL_law_674 ?_
  refine va_sld hx hb hXs hbl hbA hS (vin_law h0 h1 hL (by decide)) dL_law_675 ?_
  refine lv_aload_n hx hb dL_law_676 rfl (lv_at hl 1 rfl) ?_
  refine lv_iload hx hb dL_law_677 (lv_at hl 5 rfl) ?_
  refine lv_iconst (v := 2) hx hb dL_law_679 (by decide) ?_
  refine lv_iadd hx hb dL_law_680 ?_
  refine va_sld hx hb hXs hbl hbA hS (vin_law h0 h1 hL (by decide)) dL_law_681 ?_
  refine lv_aload_n hx hb dL_law_682 rfl (lv_at hl 1 rfl) ?_
  refine lv_iload hx hb dL_law_683 (lv_at hl 5 rfl) ?_
  refine lv_iconst (v := 3) hx hb dL_law_685 (by decide) ?_
  refine lv_iadd hx hb dL_law_686 ?_
  refine va_sld hx hb hXs hbl hbA hS (vin_law h0 h1 hL (by decide)) dL_law_687 ?_
  refine sM_then (rest := []) (wx := w1 ++ [oc ct qo fo1]) ⟨hx, hb, hml, hown, hts⟩ (cwV 3 hts kw_M_then rfl rfl rfl (by decide +kernel) ⟨(Nat.le_of_ble_eq_true rfl), (Nat.le_of_ble_eq_true rfl)⟩) hM hK (pc_ hP) (dc_ hD) hS hA hl.1 (Nat.le_of_ble_eq_true rfl) dL_law_688 ⟨by show cells + 5 + 0 ≤ 601024; omega, by show slots + 30 + 0 ≤ 7293034; omega⟩ (xs (i + 1).toNatClampNeg) (xs (i + 2).toNatClampNeg) (xs (i + 3).toNatClampNeg) (fun r2 q2 w2 H locs hx2 hM2 hP hD hS => ?_)
  have hP := pc_ hP
  have hD := dc_ hD
  have hG2 : GI ct ad ag o q2 w1 := GI_kq hG1 hx2
  refine lv_istore (lv' := [(6, .int r2), (5, .int r), (0, .ref b), (1, .ref ag), (2, .ref am), (3, .ref qo), (4, .int i)]) hx hb dL_law_691 hl (by decide) rfl (fun ls hl => ?_)
  refine lv_goto (tgt := 1476) hx hb dL_law_693 (by decide) ?_
  exact W.widen (by show cells + 5 + 0 ≤ cells + 5; omega) (by show slots + 30 + 0 ≤ slots + 30; omega) (K o q2 w1 w2 fo1 H locs ls hG2 hM2 hP hD hS (lv_sub hl [2, 3, 4, 5, 6] rfl))
theorem lc_13 (F : LF p l s m c b L xs D ct ad sw sad wa A) (h0 : 0 ≤ i.toInt) (h1 : i.toInt + 6 ≤ (L : Int)) (hL : L ≤ 3072) (hc : cells + 5 ≤ 601024 ∧ slots + 30 ≤ 7293034) (K : LK p l e s m below meth c b ag am qo D ct ad sad A Q i (cells + 5) (slots + 30)) (hG : GI ct ad ag o q wg) (hM : MI ct sad am o q (fun _ => True) wm) (hP : va_P D vwCl ((wg ++ [oc ct qo fo]) ++ wm) H) (hD : va_D A ((wg ++ [oc ct qo fo]) ++ wm)) (hS : va_S A s.heap H locs) (hl : lv_has ls 7 (lvL b ag am qo i)) : W p l e room_1 s m #[Value.ref b] below meth c H locs cells slots Q (F0 m 696 ls []) := by
  obtain ⟨hx, hb, hml, hown, hts, hK, hX, hXm, hst, hA, hXs, hbl, hbA⟩ := F
  have hl : lv_has ls 7 [(0, .ref b), (1, .ref ag), (2, .ref am), (3, .ref qo), (4, .int i)] := hl
  refine lv_aload_n hx hb dL_law_696 rfl (lv_at hl 1 rfl) ?_
  refine lv_aload_n hx hb dL_law_697 rfl (lv_at hl 0 rfl) ?_
  refine lv_iload hx hb dL_law_698 (lv_at hl 4 rfl) ?_
  refine lv_iconst (v := 1) hx hb dL_law_700 (by decide) ?_
  refine lv_iadd hx hb dL_law_701 ?_
  refine va_sld hx hb hXs hbl hbA hS (vin_law h0 h1 hL (by decide)) dL_law_702 ?_
  refine lv_aload_n hx hb dL_law_703 rfl (lv_at hl 0 rfl) ?_
  refine lv_iload hx hb dL_law_704 (lv_at hl 4 rfl) ?_
  refine lv_iconst (v := 2) hx hb dL_law_706 (by decide) ?_
  refine lv_iadd hx hb dL_law_707 ?_
  refine va_sld hx hb hXs hbl hbA hS (vin_law h0 h1 hL (by decide)) dL_law_708 ?_
  refine lv_aload_n hx hb dL_law_709 rfl (lv_at hl 0 rfl) ?_
  refine lv_iload hx hb dL_law_710 (lv_at hl 4 rfl) ?_
  refine lv_iconst (v := 3) hx hb dL_law_712 (by decide) ?_
  refine lv_iadd hx hb dL_law_713 ?_
  refine va_sld hx hb hXs hbl hbA hS (vin_law h0 h1 hL (by decide)) dL_law_714 ?_
  refine lv_aload_n hx hb dL_law_715 rfl (lv_at hl 3 rfl) ?_
  refine kHS (rest := []) (X := wg ++ [oc ct qo fo]) (pl := wm) ⟨hx, hb, hml, hown, hts⟩ (w_where l hst D ct ad sw wa ag qo H.size o q wg fo (xs (i + 1).toNatClampNeg) (xs (i + 2).toNatClampNeg) (xs (i + 3).toNatClampNeg) hG) (vx_cwSW 5 hts kw_W_where rfl rfl rfl (by decide +kernel) ⟨(Nat.le_of_ble_eq_true rfl), (Nat.le_of_ble_eq_true rfl)⟩) (EL_ok ad sw wa) hX hK hP hD hS hA rfl hl.1 rfl (Nat.le_of_ble_eq_true rfl) dL_law_716 ⟨by show cells + 5 ≤ 601024; omega, by show slots + 30 ≤ 7293034; omega⟩ (fun r u H locs hr hP hD hS => ?_)
  obtain ⟨w1, fo1, o1⟩ := u
  have hG1 : GI ct ad ag o q w1 := by
    have h := hr.1
    have e : o1 = o := hr.2
    rw [← e]
    exact h
  have hP : va_P D vwCl ((w1 ++ [oc ct qo fo1]) ++ wm) H := hP
  have hD : va_D A ((w1 ++ [oc ct qo fo1]) ++ wm) := hD
  refine lv_istore (lv' := [(5, .int r), (0, .ref b), (1, .ref ag), (2, .ref am), (3, .ref qo), (4, .int i)]) hx hb dL_law_719 hl (by decide) rfl (fun ls hl => ?_)
  refine lv_aload_n hx hb dL_law_721 rfl (lv_at hl 3 rfl) ?_
  refine lv_aload_n hx hb dL_law_722 rfl (lv_at hl 1 rfl) ?_
  refine lv_iload hx hb dL_law_723 (lv_at hl 5 rfl) ?_
  refine lv_iconst (v := 1) hx hb dL_law_725 (by decide) ?_
  refine lv_iadd hx hb dL_law_726 ?_
  refine va_sld hx hb hXs hbl hbA hS (vin_law h0 h1 hL (by decide)) dL_law_727 ?_
  refine lv_aload_n hx hb dL_law_728 rfl (lv_at hl 1 rfl) ?_
  refine lv_iload hx hb dL_law_729 (lv_at hl 5 rfl) ?_
  refine lv_iconst (v := 2) hx hb dL_law_731 (by decide) ?_
  refine lv_iadd hx hb dL_law_732 ?_
  refine va_sld hx hb hXs hbl hbA hS (vin_law h0 h1 hL (by decide)) dL_law_733 ?_
  refine lv_aload_n hx hb dL_law_734 rfl (lv_at hl 1 rfl) ?_
  refine lv_iload hx hb dL_law_735 (lv_at hl 5 rfl) ?_
  refine lv_iconst (v := 3) hx hb dL_law_737 (by decide) ?_
  refine lv_iadd hx hb dL_law_738 ?_
  refine va_sld hx hb hXs hbl hbA hS (vin_law h0 h1 hL (by decide)) dL_law_739 ?_
  refine sM_where (rest := []) (wx := w1 ++ [oc ct qo fo1]) ⟨hx, hb, hml, hown, hts⟩ (cwV 3 hts kw_M_where rfl rfl rfl (by decide +kernel) ⟨(Nat.le_of_ble_eq_true rfl), (Nat.le_of_ble_eq_true rfl)⟩) hM hK (pc_ hP) (dc_ hD) hS hA hl.1 (Nat.le_of_ble_eq_true rfl) dL_law_740 ⟨by show cells + 5 + 0 ≤ 601024; omega, by show slots + 30 + 0 ≤ 7293034; omega⟩ (xs (i + 1).toNatClampNeg) (xs (i + 2).toNatClampNeg) (xs (i + 3).toNatClampNeg) (fun r2 q2 w2 H locs hx2 hM2 hP hD hS => ?_)
  have hP := pc_ hP
  have hD := dc_ hD
  have hG2 : GI ct ad ag o q2 w1 := GI_kq hG1 hx2
  refine lv_istore (lv' := [(6, .int r2), (5, .int r), (0, .ref b), (1, .ref ag), (2, .ref am), (3, .ref qo), (4, .int i)]) hx hb dL_law_743 hl (by decide) rfl (fun ls hl => ?_)
  refine lv_goto (tgt := 1476) hx hb dL_law_745 (by decide) ?_
  exact W.widen (by show cells + 5 + 0 ≤ cells + 5; omega) (by show slots + 30 + 0 ≤ slots + 30; omega) (K o q2 w1 w2 fo1 H locs ls hG2 hM2 hP hD hS (lv_sub hl [2, 3, 4, 5, 6] rfl))
theorem lc_14 (F : LF p l s m c b L xs D ct ad sw sad wa A) (h0 : 0 ≤ i.toInt) (h1 : i.toInt + 6 ≤ (L : Int)) (hL : L ≤ 3072) (hc : cells + 5 ≤ 601024 ∧ slots + 30 ≤ 7293034) (K : LK p l e s m below meth c b ag am qo D ct ad sad A Q i (cells + 5) (slots + 30)) (hG : GI ct ad ag o q wg) (hM : MI ct sad am o q (fun _ => True) wm) (hP : va_P D vwCl ((wg ++ [oc ct qo fo]) ++ wm) H) (hD : va_D A ((wg ++ [oc ct qo fo]) ++ wm)) (hS : va_S A s.heap H locs) (hl : lv_has ls 7 (lvL b ag am qo i)) : W p l e room_1 s m #[Value.ref b] below meth c H locs cells slots Q (F0 m 748 ls []) := by
  obtain ⟨hx, hb, hml, hown, hts, hK, hX, hXm, hst, hA, hXs, hbl, hbA⟩ := F
  have hl : lv_has ls 7 [(0, .ref b), (1, .ref ag), (2, .ref am), (3, .ref qo), (4, .int i)] := hl
  refine lv_aload_n hx hb dL_law_748 rfl (lv_at hl 1 rfl) ?_
  refine lv_aload_n hx hb dL_law_749 rfl (lv_at hl 0 rfl) ?_
  refine lv_iload hx hb dL_law_750 (lv_at hl 4 rfl) ?_
  refine lv_iconst (v := 1) hx hb dL_law_752 (by decide) ?_
  refine lv_iadd hx hb dL_law_753 ?_
  refine va_sld hx hb hXs hbl hbA hS (vin_law h0 h1 hL (by decide)) dL_law_754 ?_
  refine lv_aload_n hx hb dL_law_755 rfl (lv_at hl 3 rfl) ?_
  refine kHS (rest := []) (X := wg ++ [oc ct qo fo]) (pl := wm) ⟨hx, hb, hml, hown, hts⟩ (w_loaf l hst D ct ad sw wa ag qo H.size o q wg fo (xs (i + 1).toNatClampNeg) hG) (vx_cwSW 3 hts kw_W_loaf rfl rfl rfl (by decide +kernel) ⟨(Nat.le_of_ble_eq_true rfl), (Nat.le_of_ble_eq_true rfl)⟩) (EL_ok ad sw wa) hX hK hP hD hS hA rfl hl.1 rfl (Nat.le_of_ble_eq_true rfl) dL_law_756 ⟨by show cells + 5 ≤ 601024; omega, by show slots + 30 ≤ 7293034; omega⟩ (fun r u H locs hr hP hD hS => ?_)
  obtain ⟨w1, fo1, o1⟩ := u
  have hG1 : GI ct ad ag o q w1 := by
    have h := hr.1
    have e : o1 = o := hr.2
    rw [← e]
    exact h
  have hP : va_P D vwCl ((w1 ++ [oc ct qo fo1]) ++ wm) H := hP
  have hD : va_D A ((w1 ++ [oc ct qo fo1]) ++ wm) := hD
  refine lv_istore (lv' := [(5, .int r), (0, .ref b), (1, .ref ag), (2, .ref am), (3, .ref qo), (4, .int i)]) hx hb dL_law_759 hl (by decide) rfl (fun ls hl => ?_)
  refine lv_aload_n hx hb dL_law_761 rfl (lv_at hl 3 rfl) ?_
  refine lv_aload_n hx hb dL_law_762 rfl (lv_at hl 1 rfl) ?_
  refine lv_iload hx hb dL_law_763 (lv_at hl 5 rfl) ?_
  refine lv_iconst (v := 1) hx hb dL_law_765 (by decide) ?_
  refine lv_iadd hx hb dL_law_766 ?_
  refine va_sld hx hb hXs hbl hbA hS (vin_law h0 h1 hL (by decide)) dL_law_767 ?_
  refine sM_loaf (rest := []) (wx := w1 ++ [oc ct qo fo1]) ⟨hx, hb, hml, hown, hts⟩ (cwV 1 hts kw_M_loaf rfl rfl rfl (by decide +kernel) ⟨(Nat.le_of_ble_eq_true rfl), (Nat.le_of_ble_eq_true rfl)⟩) hM hK (pc_ hP) (dc_ hD) hS hA hl.1 (Nat.le_of_ble_eq_true rfl) dL_law_768 ⟨by show cells + 5 + 0 ≤ 601024; omega, by show slots + 30 + 0 ≤ 7293034; omega⟩ (xs (i + 1).toNatClampNeg) (fun r2 q2 w2 H locs hx2 hM2 hP hD hS => ?_)
  have hP := pc_ hP
  have hD := dc_ hD
  have hG2 : GI ct ad ag o q2 w1 := GI_kq hG1 hx2
  refine lv_istore (lv' := [(6, .int r2), (5, .int r), (0, .ref b), (1, .ref ag), (2, .ref am), (3, .ref qo), (4, .int i)]) hx hb dL_law_771 hl (by decide) rfl (fun ls hl => ?_)
  refine lv_goto (tgt := 1476) hx hb dL_law_773 (by decide) ?_
  exact W.widen (by show cells + 5 + 0 ≤ cells + 5; omega) (by show slots + 30 + 0 ≤ slots + 30; omega) (K o q2 w1 w2 fo1 H locs ls hG2 hM2 hP hD hS (lv_sub hl [2, 3, 4, 5, 6] rfl))
theorem lc_15 (F : LF p l s m c b L xs D ct ad sw sad wa A) (h0 : 0 ≤ i.toInt) (h1 : i.toInt + 6 ≤ (L : Int)) (hL : L ≤ 3072) (hc : cells + 5 ≤ 601024 ∧ slots + 30 ≤ 7293034) (K : LK p l e s m below meth c b ag am qo D ct ad sad A Q i (cells + 5) (slots + 30)) (hG : GI ct ad ag o q wg) (hM : MI ct sad am o q (fun _ => True) wm) (hP : va_P D vwCl ((wg ++ [oc ct qo fo]) ++ wm) H) (hD : va_D A ((wg ++ [oc ct qo fo]) ++ wm)) (hS : va_S A s.heap H locs) (hl : lv_has ls 7 (lvL b ag am qo i)) : W p l e room_1 s m #[Value.ref b] below meth c H locs cells slots Q (F0 m 776 ls []) := by
  obtain ⟨hx, hb, hml, hown, hts, hK, hX, hXm, hst, hA, hXs, hbl, hbA⟩ := F
  have hl : lv_has ls 7 [(0, .ref b), (1, .ref ag), (2, .ref am), (3, .ref qo), (4, .int i)] := hl
  refine lv_aload_n hx hb dL_law_776 rfl (lv_at hl 1 rfl) ?_
  refine lv_aload_n hx hb dL_law_777 rfl (lv_at hl 0 rfl) ?_
  refine lv_iload hx hb dL_law_778 (lv_at hl 4 rfl) ?_
  refine lv_iconst (v := 1) hx hb dL_law_780 (by decide) ?_
  refine lv_iadd hx hb dL_law_781 ?_
  refine va_sld hx hb hXs hbl hbA hS (vin_law h0 h1 hL (by decide)) dL_law_782 ?_
  refine lv_aload_n hx hb dL_law_783 rfl (lv_at hl 0 rfl) ?_
  refine lv_iload hx hb dL_law_784 (lv_at hl 4 rfl) ?_
  refine lv_iconst (v := 2) hx hb dL_law_786 (by decide) ?_
  refine lv_iadd hx hb dL_law_787 ?_
  refine va_sld hx hb hXs hbl hbA hS (vin_law h0 h1 hL (by decide)) dL_law_788 ?_
  refine lv_aload_n hx hb dL_law_789 rfl (lv_at hl 3 rfl) ?_
  refine kHS (rest := []) (X := wg ++ [oc ct qo fo]) (pl := wm) ⟨hx, hb, hml, hown, hts⟩ (w_later l hst D ct ad sw wa ag qo H.size o q wg fo (xs (i + 1).toNatClampNeg) (xs (i + 2).toNatClampNeg) hG) (vx_cwSW 4 hts kw_W_later rfl rfl rfl (by decide +kernel) ⟨(Nat.le_of_ble_eq_true rfl), (Nat.le_of_ble_eq_true rfl)⟩) (EL_ok ad sw wa) hX hK hP hD hS hA rfl hl.1 rfl (Nat.le_of_ble_eq_true rfl) dL_law_790 ⟨by show cells + 5 ≤ 601024; omega, by show slots + 30 ≤ 7293034; omega⟩ (fun r u H locs hr hP hD hS => ?_)
  obtain ⟨w1, fo1, o1⟩ := u
  have hG1 : GI ct ad ag o q w1 := by
    have h := hr.1
    have e : o1 = o := hr.2
    rw [← e]
    exact h
  have hP : va_P D vwCl ((w1 ++ [oc ct qo fo1]) ++ wm) H := hP
  have hD : va_D A ((w1 ++ [oc ct qo fo1]) ++ wm) := hD
  refine lv_istore (lv' := [(5, .int r), (0, .ref b), (1, .ref ag), (2, .ref am), (3, .ref qo), (4, .int i)]) hx hb dL_law_793 hl (by decide) rfl (fun ls hl => ?_)
  refine lv_aload_n hx hb dL_law_795 rfl (lv_at hl 3 rfl) ?_
  refine lv_aload_n hx hb dL_law_796 rfl (lv_at hl 1 rfl) ?_
  refine lv_iload hx hb dL_law_797 (lv_at hl 5 rfl) ?_
  refine lv_iconst (v := 1) hx hb dL_law_799 (by decide) ?_
  refine lv_iadd hx hb dL_law_800 ?_
  refine va_sld hx hb hXs hbl hbA hS (vin_law h0 h1 hL (by decide)) dL_law_801 ?_
  refine lv_aload_n hx hb dL_law_802 rfl (lv_at hl 1 rfl) ?_
  refine lv_iload hx hb dL_law_803 (lv_at hl 5 rfl) ?_
  refine lv_iconst (v := 2) hx hb dL_law_805 (by decide) ?_
  refine lv_iadd hx hb dL_law_806 ?_
  refine va_sld hx hb hXs hbl hbA hS (vin_law h0 h1 hL (by decide)) dL_law_807 ?_
  refine sM_later (rest := []) (wx := w1 ++ [oc ct qo fo1]) ⟨hx, hb, hml, hown, hts⟩ (cwV 2 hts kw_M_later rfl rfl rfl (by decide +kernel) ⟨(Nat.le_of_ble_eq_true rfl), (Nat.le_of_ble_eq_true rfl)⟩) hM hK (pc_ hP) (dc_ hD) hS hA hl.1 (Nat.le_of_ble_eq_true rfl) dL_law_808 ⟨by show cells + 5 + 0 ≤ 601024; omega, by show slots + 30 + 0 ≤ 7293034; omega⟩ (xs (i + 1).toNatClampNeg) (xs (i + 2).toNatClampNeg) (fun r2 q2 w2 H locs hx2 hM2 hP hD hS => ?_)
  have hP := pc_ hP
  have hD := dc_ hD
  have hG2 : GI ct ad ag o q2 w1 := GI_kq hG1 hx2
  refine lv_istore (lv' := [(6, .int r2), (5, .int r), (0, .ref b), (1, .ref ag), (2, .ref am), (3, .ref qo), (4, .int i)]) hx hb dL_law_811 hl (by decide) rfl (fun ls hl => ?_)
  refine lv_goto (tgt := 1476) hx hb dL_law_813 (by decide) ?_
  exact W.widen (by show cells + 5 + 0 ≤ cells + 5; omega) (by show slots + 30 + 0 ≤ slots + 30; omega) (K o q2 w1 w2 fo1 H locs ls hG2 hM2 hP hD hS (lv_sub hl [2, 3, 4, 5, 6] rfl))
theorem lc_16 (F : LF p l s m c b L xs D ct ad sw sad wa A) (h0 : 0 ≤ i.toInt) (h1 : i.toInt + 6 ≤ (L : Int)) (hL : L ≤ 3072) (hc : cells + 5 ≤ 601024 ∧ slots + 30 ≤ 7293034) (K : LK p l e s m below meth c b ag am qo D ct ad sad A Q i (cells + 5) (slots + 30)) (hG : GI ct ad ag o q wg) (hM : MI ct sad am o q (fun _ => True) wm) (hP : va_P D vwCl ((wg ++ [oc ct qo fo]) ++ wm) H) (hD : va_D A ((wg ++ [oc ct qo fo]) ++ wm)) (hS : va_S A s.heap H locs) (hl : lv_has ls 7 (lvL b ag am qo i)) : W p l e room_1 s m #[Value.ref b] below meth c H locs cells slots Q (F0 m 816 ls []) := by
  obtain ⟨hx, hb, hml, hown, hts, hK, hX, hXm, hst, hA, hXs, hbl, hbA⟩ := F
  have hl : lv_has ls 7 [(0, .ref b), (1, .ref ag), (2, .ref am), (3, .ref qo), (4, .int i)] := hl
  refine lv_aload_n hx hb dL_law_816 rfl (lv_at hl 1 rfl) ?_
  refine lv_aload_n hx hb dL_law_817 rfl (lv_at hl 0 rfl) ?_
  refine lv_iload hx hb dL_law_818 (lv_at hl 4 rfl) ?_
  refine lv_iconst (v := 1) hx hb dL_law_820 (by decide) ?_
  refine lv_iadd hx hb dL_law_821 ?_
  refine va_sld hx hb hXs hbl hbA hS (vin_law h0 h1 hL (by decide)) dL_law_822 ?_
  refine lv_aload_n hx hb dL_law_823 rfl (lv_at hl 0 rfl) ?_
  refine lv_iload hx hb dL_law_824 (lv_at hl 4 rfl) ?_
  refine lv_iconst (v := 2) hx hb dL_law_826 (by decide) ?_
  refine lv_iadd hx hb dL_law_827 ?_
  refine va_sld hx hb hXs hbl hbA hS (vin_law h0 h1 hL (by decide)) dL_law_828 ?_
  refine lv_aload_n hx hb dL_law_829 rfl (lv_at hl 3 rfl) ?_
  refine kHS (rest := []) (X := wg ++ [oc ct qo fo]) (pl := wm) ⟨hx, hb, hml, hown, hts⟩ (w_sat l hst D ct ad sw wa ag qo H.size o q wg fo (xs (i + 1).toNatClampNeg) (xs (i + 2).toNatClampNeg) hG) (vx_cwSW 4 hts kw_W_sat rfl rfl rfl (by decide +kernel) ⟨(Nat.le_of_ble_eq_true rfl), (Nat.le_of_ble_eq_true rfl)⟩) (EL_ok ad sw wa) hX hK hP hD hS hA rfl hl.1 rfl (Nat.le_of_ble_eq_true rfl) dL_law_830 ⟨by show cells + 5 ≤ 601024; omega, by show slots + 30 ≤ 7293034; omega⟩ (fun r u H locs hr hP hD hS => ?_)
  obtain ⟨w1, fo1, o1⟩ := u
  have hG1 : GI ct ad ag o q w1 := by
    have h := hr.1
    have e : o1 = o := hr.2
    rw [← e]
    exact h
  have hP : va_P D vwCl ((w1 ++ [oc ct qo fo1]) ++ wm) H := hP
  have hD : va_D A ((w1 ++ [oc ct qo fo1]) ++ wm) := hD
  refine lv_istore (lv' := [(5, .int r), (0, .ref b), (1, .ref ag), (2, .ref am), (3, .ref qo), (4, .int i)]) hx hb dL_law_833 hl (by decide) rfl (fun ls hl => ?_)
  refine lv_aload_n hx hb dL_law_835 rfl (lv_at hl 3 rfl) ?_
  refine lv_aload_n hx hb dL_law_836 rfl (lv_at hl 1 rfl) ?_
  refine lv_iload hx hb dL_law_837 (lv_at hl 5 rfl) ?_
  refine lv_iconst (v := 1) hx hb dL_law_839 (by decide) ?_
  refine lv_iadd hx hb dL_law_840 ?_
  refine va_sld hx hb hXs hbl hbA hS (vin_law h0 h1 hL (by decide)) dL_law_841 ?_
  refine lv_aload_n hx hb dL_law_842 rfl (lv_at hl 1 rfl) ?_
  refine lv_iload hx hb dL_law_843 (lv_at hl 5 rfl) ?_
  refine lv_iconst (v := 2) hx hb dL_law_845 (by decide) ?_
  refine lv_iadd hx hb dL_law_846 ?_
  refine va_sld hx hb hXs hbl hbA hS (vin_law h0 h1 hL (by decide)) dL_law_847 ?_
  refine sM_sat (rest := []) (wx := w1 ++ [oc ct qo fo1]) ⟨hx, hb, hml, hown, hts⟩ (cwV 2 hts kw_M_sat rfl rfl rfl (by decide +kernel) ⟨(Nat.le_of_ble_eq_true rfl), (Nat.le_of_ble_eq_true rfl)⟩) hM hK (pc_ hP) (dc_ hD) hS hA hl.1 (Nat.le_of_ble_eq_true rfl) dL_law_848 ⟨by show cells + 5 + 0 ≤ 601024; omega, by show slots + 30 + 0 ≤ 7293034; omega⟩ (xs (i + 1).toNatClampNeg) (xs (i + 2).toNatClampNeg) (fun r2 q2 w2 H locs hx2 hM2 hP hD hS => ?_)
  have hP := pc_ hP
  have hD := dc_ hD
  have hG2 : GI ct ad ag o q2 w1 := GI_kq hG1 hx2
  refine lv_istore (lv' := [(6, .int r2), (5, .int r), (0, .ref b), (1, .ref ag), (2, .ref am), (3, .ref qo), (4, .int i)]) hx hb dL_law_851 hl (by decide) rfl (fun ls hl => ?_)
  refine lv_goto (tgt := 1476) hx hb dL_law_853 (by decide) ?_
  exact W.widen (by show cells + 5 + 0 ≤ cells + 5; omega) (by show slots + 30 + 0 ≤ slots + 30; omega) (K o q2 w1 w2 fo1 H locs ls hG2 hM2 hP hD hS (lv_sub hl [2, 3, 4, 5, 6] rfl))
theorem lc_17 (F : LF p l s m c b L xs D ct ad sw sad wa A) (h0 : 0 ≤ i.toInt) (h1 : i.toInt + 6 ≤ (L : Int)) (hL : L ≤ 3072) (hc : cells + 5 ≤ 601024 ∧ slots + 30 ≤ 7293034) (K : LK p l e s m below meth c b ag am qo D ct ad sad A Q i (cells + 5) (slots + 30)) (hG : GI ct ad ag o q wg) (hM : MI ct sad am o q (fun _ => True) wm) (hP : va_P D vwCl ((wg ++ [oc ct qo fo]) ++ wm) H) (hD : va_D A ((wg ++ [oc ct qo fo]) ++ wm)) (hS : va_S A s.heap H locs) (hl : lv_has ls 7 (lvL b ag am qo i)) : W p l e room_1 s m #[Value.ref b] below meth c H locs cells slots Q (F0 m 856 ls []) := by
  obtain ⟨hx, hb, hml, hown, hts, hK, hX, hXm, hst, hA, hXs, hbl, hbA⟩ := F
  have hl : lv_has ls 7 [(0, .ref b), (1, .ref ag), (2, .ref am), (3, .ref qo), (4, .int i)] := hl
  refine lv_aload_n hx hb dL_law_856 rfl (lv_at hl 1 rfl) ?_
  refine lv_aload_n hx hb dL_law_857 rfl (lv_at hl 0 rfl) ?_
  refine lv_iload hx hb dL_law_858 (lv_at hl 4 rfl) ?_
  refine lv_iconst (v := 1) hx hb dL_law_860 (by decide) ?_
  refine lv_iadd hx hb dL_law_861 ?_
  refine va_sld hx hb hXs hbl hbA hS (vin_law h0 h1 hL (by decide)) dL_law_862 ?_
  refine lv_aload_n hx hb dL_law_863 rfl (lv_at hl 0 rfl) ?_
  refine lv_iload hx hb dL_law_864 (lv_at hl 4 rfl) ?_
  refine lv_iconst (v := 2) hx hb dL_law_866 (by decide) ?_
  refine lv_iadd hx hb dL_law_867 ?_
  refine va_sld hx hb hXs hbl hbA hS (vin_law h0 h1 hL (by decide)) dL_law_868 ?_
  refine lv_aload_n hx hb dL_law_869 rfl (lv_at hl 3 rfl) ?_
  refine kHS (rest := []) (X := wg ++ [oc ct qo fo]) (pl := wm) ⟨hx, hb, hml, hown, hts⟩ (w_fits l hst D ct ad sw wa ag qo H.size o q wg fo (xs (i + 1).toNatClampNeg) (xs (i + 2).toNatClampNeg) hG) (vx_cwSW 4 hts kw_W_fits rfl rfl rfl (by decide +kernel) ⟨(Nat.le_of_ble_eq_true rfl), (Nat.le_of_ble_eq_true rfl)⟩) (EL_ok ad sw wa) hX hK hP hD hS hA rfl hl.1 rfl (Nat.le_of_ble_eq_true rfl) dL_law_870 ⟨by show cells + 5 ≤ 601024; omega, by show slots + 30 ≤ 7293034; omega⟩ (fun r u H locs hr hP hD hS => ?_)
  obtain ⟨w1, fo1, o1⟩ := u
  have hG1 : GI ct ad ag o q w1 := by
    have h := hr.1
    have e : o1 = o := hr.2
    rw [← e]
    exact h
  have hP : va_P D vwCl ((w1 ++ [oc ct qo fo1]) ++ wm) H := hP
  have hD : va_D A ((w1 ++ [oc ct qo fo1]) ++ wm) := hD
  refine lv_istore (lv' := [(5, .int r), (0, .ref b), (1, .ref ag), (2, .ref am), (3, .ref qo), (4, .int i)]) hx hb dL_law_873 hl (by decide) rfl (fun ls hl => ?_)
  refine lv_aload_n hx hb dL_law_875 rfl (lv_at hl 3 rfl) ?_
  refine lv_aload_n hx hb dL_law_876 rfl (lv_at hl 1 rfl) ?_
  refine lv_iload hx hb dL_law_877 (lv_at hl 5 rfl) ?_
  refine lv_iconst (v := 1) hx hb dL_law_879 (by decide) ?_
  refine lv_iadd hx hb dL_law_880 ?_
  refine va_sld hx hb hXs hbl hbA hS (vin_law h0 h1 hL (by decide)) dL_law_881 ?_
  refine lv_aload_n hx hb dL_law_882 rfl (lv_at hl 1 rfl) ?_
  refine lv_iload hx hb dL_law_883 (lv_at hl 5 rfl) ?_
  refine lv_iconst (v := 2) hx hb dL_law_885 (by decide) ?_
  refine lv_iadd hx hb dL_law_886 ?_
  refine va_sld hx hb hXs hbl hbA hS (vin_law h0 h1 hL (by decide)) dL_law_887 ?_
  refine sM_fits (rest := []) (wx := w1 ++ [oc ct qo fo1]) ⟨hx, hb, hml, hown, hts⟩ (cwV 2 hts kw_M_fits rfl rfl rfl (by decide +kernel) ⟨(Nat.le_of_ble_eq_true rfl), (Nat.le_of_ble_eq_true rfl)⟩) hM hK (pc_ hP) (dc_ hD) hS hA hl.1 (Nat.le_of_ble_eq_true rfl) dL_law_888 ⟨by show cells + 5 + 0 ≤ 601024; omega, by show slots + 30 + 0 ≤ 7293034; omega⟩ (xs (i + 1).toNatClampNeg) (xs (i + 2).toNatClampNeg) (fun r2 q2 w2 H locs hx2 hM2 hP hD hS => ?_)
  have hP := pc_ hP
  have hD := dc_ hD
  have hG2 : GI ct ad ag o q2 w1 := GI_kq hG1 hx2
  refine lv_istore (lv' := [(6, .int r2), (5, .int r), (0, .ref b), (1, .ref ag), (2, .ref am), (3, .ref qo), (4, .int i)]) hx hb dL_law_891 hl (by decide) rfl (fun ls hl => ?_)
  refine lv_goto (tgt := 1476) hx hb dL_law_893 (by decide) ?_
  exact W.widen (by show cells + 5 + 0 ≤ cells + 5; omega) (by show slots + 30 + 0 ≤ slots + 30; omega) (K o q2 w1 w2 fo1 H locs ls hG2 hM2 hP hD hS (lv_sub hl [2, 3, 4, 5, 6] rfl))
theorem lc_18 (F : LF p l s m c b L xs D ct ad sw sad wa A) (h0 : 0 ≤ i.toInt) (h1 : i.toInt + 6 ≤ (L : Int)) (hL : L ≤ 3072) (hc : cells + 5 ≤ 601024 ∧ slots + 30 ≤ 7293034) (K : LK p l e s m below meth c b ag am qo D ct ad sad A Q i (cells + 5) (slots + 30)) (hG : GI ct ad ag o q wg) (hM : MI ct sad am o q (fun _ => True) wm) (hP : va_P D vwCl ((wg ++ [oc ct qo fo]) ++ wm) H) (hD : va_D A ((wg ++ [oc ct qo fo]) ++ wm)) (hS : va_S A s.heap H locs) (hl : lv_has ls 7 (lvL b ag am qo i)) : W p l e room_1 s m #[Value.ref b] below meth c H locs cells slots Q (F0 m 896 ls []) := by
  obtain ⟨hx, hb, hml, hown, hts, hK, hX, hXm, hst, hA, hXs, hbl, hbA⟩ := F
  have hl : lv_has ls 7 [(0, .ref b), (1, .ref ag), (2, .ref am), (3, .ref qo), (4, .int i)] := hl
  refine lv_aload_n hx hb dL_law_896 rfl (lv_at hl 1 rfl) ?_
  refine lv_aload_n hx hb dL_law_897 rfl (lv_at hl 0 rfl) ?_
  refine lv_iload hx hb dL_law_898 (lv_at hl 4 rfl) ?_
  refine lv_iconst (v := 1) hx hb dL_law_900 (by decide) ?_
  refine lv_iadd hx hb dL_law_901 ?_
  refine va_sld hx hb hXs hbl hbA hS (vin_law h0 h1 hL (by decide)) dL_law_902 ?_
  refine lv_aload_n hx hb dL_law_903 rfl (lv_at hl 0 rfl) ?_
  refine lv_iload hx hb dL_law_904 (lv_at hl 4 rfl) ?_
  refine lv_iconst (v := 2) hx hb dL_law_906 (by decide) ?_
  refine lv_iadd hx hb dL_law_907 ?_
  refine va_sld hx hb hXs hbl hbA hS (vin_law h0 h1 hL (by decide)) dL_law_908 ?_
  refine lv_aload_n hx hb dL_law_909 rfl (lv_at hl 0 rfl) ?_
  refine lv_iload hx hb dL_law_910 (lv_at hl 4 rfl) ?_
  refine lv_iconst (v := 3) hx hb dL_law_912 (by decide) ?_
  refine lv_iadd hx hb dL_law_913 ?_
  refine va_sld hx hb hXs hbl hbA hS (vin_law h0 h1 hL (by decide)) dL_law_914 ?_
  refine lv_aload_n hx hb dL_law_915 rfl (lv_at hl 3 rfl) ?_
  refine kHS (rest := []) (X := wg ++ [oc ct qo fo]) (pl := wm) ⟨hx, hb, hml, hown, hts⟩ (w_unlike l hst D ct ad sw wa ag qo H.size o q wg fo (xs (i + 1).toNatClampNeg) (xs (i + 2).toNatClampNeg) (xs (i + 3).toNatClampNeg) hG) (vx_cwSW 5 hts kw_W_unlike rfl rfl rfl (by decide +kernel) ⟨(Nat.le_of_ble_eq_true rfl), (Nat.le_of_ble_eq_true rfl)⟩) (EL_ok ad sw wa) hX hK hP hD hS hA rfl hl.1 rfl (Nat.le_of_ble_eq_true rfl) dL_law_916 ⟨by show cells + 5 ≤ 601024; omega, by show slots + 30 ≤ 7293034; omega⟩ (fun r u H locs hr hP hD hS => ?_)
  obtain ⟨w1, fo1, o1⟩ := u
  have hG1 : GI ct ad ag o q w1 := by
    have h := hr.1
    have e : o1 = o := hr.2
    rw [← e]
    exact h
  have hP : va_P D vwCl ((w1 ++ [oc ct qo fo1]) ++ wm) H := hP
  have hD : va_D A ((w1 ++ [oc ct qo fo1]) ++ wm) := hD
  refine lv_istore (lv' := [(5, .int r), (0, .ref b), (1, .ref ag), (2, .ref am), (3, .ref qo), (4, .int i)]) hx hb dL_law_919 hl (by decide) rfl (fun ls hl => ?_)
  refine lv_aload_n hx hb dL_law_921 rfl (lv_at hl 3 rfl) ?_
  refine lv_aload_n hx hb dL_law_922 rfl (lv_at hl 1 rfl) ?_
  refine lv_iload hx hb dL_law_923 (lv_at hl 5 rfl) ?_
  refine lv_iconst (v := 1) hx hb dL_law_925 (by decide) ?_
  refine lv_iadd hx hb dL_law_926 ?_
  refine va_sld hx hb hXs hbl hbA hS (vin_law h0 h1 hL (by decide)) dL_law_927 ?_
  refine lv_aload_n hx hb dL_law_928 rfl (lv_at hl 1 rfl) ?_
  refine lv_iload hx hb dL_law_929 (lv_at hl 5 rfl) ?_
  refine lv_iconst (v := 2) hx hb dL_law_931 (by decide) ?_
  refine lv_iadd hx hb dL_law_932 ?_
  refine va_sld hx hb hXs hbl hbA hS (vin_law h0 h1 hL (by decide)) dL_law_933 ?_
  refine lv_aload_n hx hb dL_law_934 rfl (lv_at hl 1 rfl) ?_
  refine lv_iload hx hb dL_law_935 (lv_at hl 5 rfl) ?_
  refine lv_iconst (v := 3) hx hb dL_law_937 (by decide) ?_
  refine lv_iadd hx hb dL_law_938 ?_
  refine va_sld hx hb hXs hbl hbA hS (vin_law h0 h1 hL (by decide)) dL_law_939 ?_
  refine sM_unlike (rest := []) (wx := w1 ++ [oc ct qo fo1]) ⟨hx, hb, hml, hown, hts⟩ (cwV 3 hts kw_M_unlike rfl rfl rfl (by decide +kernel) ⟨(Nat.le_of_ble_eq_true rfl), (Nat.le_of_ble_eq_true rfl)⟩) hM hK (pc_ hP) (dc_ hD) hS hA hl.1 (Nat.le_of_ble_eq_true rfl) dL_law_940 ⟨by show cells + 5 + 0 ≤ 601024; omega, by show slots + 30 + 0 ≤ 7293034; omega⟩ (xs (i + 1).toNatClampNeg) (xs (i + 2).toNatClampNeg) (xs (i + 3).toNatClampNeg) (fun r2 q2 w2 H locs hx2 hM2 hP hD hS => ?_)
  have hP := pc_ hP
  have hD := dc_ hD
  have hG2 : GI ct ad ag o q2 w1 := GI_kq hG1 hx2
  refine lv_istore (lv' := [(6, .int r2), (5, .int r), (0, .ref b), (1, .ref ag), (2, .ref am), (3, .ref qo), (4, .int i)]) hx hb dL_law_943 hl (by decide) rfl (fun ls hl => ?_)
  refine lv_goto (tgt := 1476) hx hb dL_law_945 (by decide) ?_
  exact W.widen (by show cells + 5 + 0 ≤ cells + 5; omega) (by show slots + 30 + 0 ≤ slots + 30; omega) (K o q2 w1 w2 fo1 H locs ls hG2 hM2 hP hD hS (lv_sub hl [2, 3, 4, 5, 6] rfl))
theorem lc_19 (F : LF p l s m c b L xs D ct ad sw sad wa A) (h0 : 0 ≤ i.toInt) (h1 : i.toInt + 6 ≤ (L : Int)) (hL : L ≤ 3072) (hc : cells + 5 ≤ 601024 ∧ slots + 30 ≤ 7293034) (K : LK p l e s m below meth c b ag am qo D ct ad sad A Q i (cells + 5) (slots + 30)) (hG : GI ct ad ag o q wg) (hM : MI ct sad am o q (fun _ => True) wm) (hP : va_P D vwCl ((wg ++ [oc ct qo fo]) ++ wm) H) (hD : va_D A ((wg ++ [oc ct qo fo]) ++ wm)) (hS : va_S A s.heap H locs) (hl : lv_has ls 7 (lvL b ag am qo i)) : W p l e room_1 s m #[Value.ref b] below meth c H locs cells slots Q (F0 m 948 ls []) := by
  obtain ⟨hx, hb, hml, hown, hts, hK, hX, hXm, hst, hA, hXs, hbl, hbA⟩ := F
  have hl : lv_has ls 7 [(0, .ref b), (1, .ref ag), (2, .ref am), (3, .ref qo), (4, .int i)] := hl
  refine lv_aload_n hx hb dL_law_948 rfl (lv_at hl 1 rfl) ?_
  refine lv_aload_n hx hb dL_law_949 rfl (lv_at hl 0 rfl) ?_
  refine lv_iload hx hb dL_law_950 (lv_at hl 4 rfl) ?_
  refine lv_iconst (v := 1) hx hb dL_law_952 (by decide) ?_
  refine lv_iadd hx hb dL_law_953 ?_
  refine va_sld hx hb hXs hbl hbA hS (vin_law h0 h1 hL (by decide)) dL_law_954 ?_
  refine lv_aload_n hx hb dL_law_955 rfl (lv_at hl 3 rfl) ?_
  refine kHS (rest := []) (X := wg ++ [oc ct qo fo]) (pl := wm) ⟨hx, hb, hml, hown, hts⟩ (w_seats l hst D ct ad sw wa ag qo H.size o q wg fo (xs (i + 1).toNatClampNeg) hG) (vx_cwSW 3 hts kw_W_seats rfl rfl rfl (by decide +kernel) ⟨(Nat.le_of_ble_eq_true rfl), (Nat.le_of_ble_eq_true rfl)⟩) (EL_ok ad sw wa) hX hK hP hD hS hA rfl hl.1 rfl (Nat.le_of_ble_eq_true rfl) dL_law_956 ⟨by show cells + 5 ≤ 601024; omega, by show slots + 30 ≤ 7293034; omega⟩ (fun r u H locs hr hP hD hS => ?_)
  obtain ⟨w1, fo1, o1⟩ := u
  have hG1 : GI ct ad ag o q w1 := by
    have h := hr.1
    have e : o1 = o := hr.2
    rw [← e]
    exact h
  have hP : va_P D vwCl ((w1 ++ [oc ct qo fo1]) ++ wm) H := hP
  have hD : va_D A ((w1 ++ [oc ct qo fo1]) ++ wm) := hD
  refine lv_istore (lv' := [(5, .int r), (0, .ref b), (1, .ref ag), (2, .ref am), (3, .ref qo), (4, .int i)]) hx hb dL_law_959 hl (by decide) rfl (fun ls hl => ?_)
  refine lv_aload_n hx hb dL_law_961 rfl (lv_at hl 3 rfl) ?_
  refine lv_aload_n hx hb dL_law_962 rfl (lv_at hl 1 rfl) ?_
  refine lv_iload hx hb dL_law_963 (lv_at hl 5 rfl) ?_
  refine lv_iconst (v := 1) hx hb dL_law_965 (by decide) ?_
  refine lv_iadd hx hb dL_law_966 ?_
  refine va_sld hx hb hXs hbl hbA hS (vin_law h0 h1 hL (by decide)) dL_law_967 ?_
  refine sM_seats (rest := []) (wx := w1 ++ [oc ct qo fo1]) ⟨hx, hb, hml, hown, hts⟩ (cwV 1 hts kw_M_seats rfl rfl rfl (by decide +kernel) ⟨(Nat.le_of_ble_eq_true rfl), (Nat.le_of_ble_eq_true rfl)⟩) hM hK (pc_ hP) (dc_ hD) hS hA hl.1 (Nat.le_of_ble_eq_true rfl) dL_law_968 ⟨by show cells + 5 + 0 ≤ 601024; omega, by show slots + 30 + 0 ≤ 7293034; omega⟩ (xs (i + 1).toNatClampNeg) (fun r2 q2 w2 H locs hx2 hM2 hP hD hS => ?_)
  have hP := pc_ hP
  have hD := dc_ hD
  have hG2 : GI ct ad ag o q2 w1 := GI_kq hG1 hx2
  refine lv_istore (lv' := [(6, .int r2), (5, .int r), (0, .ref b), (1, .ref ag), (2, .ref am), (3, .ref qo), (4, .int i)]) hx hb dL_law_971 hl (by decide) rfl (fun ls hl => ?_)
  refine lv_goto (tgt := 1476) hx hb dL_law_973 (by decide) ?_
  exact W.widen (by show cells + 5 + 0 ≤ cells + 5; omega) (by show slots + 30 + 0 ≤ slots + 30; omega) (K o q2 w1 w2 fo1 H locs ls hG2 hM2 hP hD hS (lv_sub hl [2, 3, 4, 5, 6] rfl))
theorem lc_20 (F : LF p l s m c b L xs D ct ad sw sad wa A) (h0 : 0 ≤ i.toInt) (h1 : i.toInt + 6 ≤ (L : Int)) (hL : L ≤ 3072) (hc : cells + 5 ≤ 601024 ∧ slots + 30 ≤ 7293034) (K : LK p l e s m below meth c b ag am qo D ct ad sad A Q i (cells + 5) (slots + 30)) (hG : GI ct ad ag o q wg) (hM : MI ct sad am o q (fun _ => True) wm) (hP : va_P D vwCl ((wg ++ [oc ct qo fo]) ++ wm) H) (hD : va_D A ((wg ++ [oc ct qo fo]) ++ wm)) (hS : va_S A s.heap H locs) (hl : lv_has ls 7 (lvL b ag am qo i)) : W p l e room_1 s m #[Value.ref b] below meth c H locs cells slots Q (F0 m 976 ls []) := by
  obtain ⟨hx, hb, hml, hown, hts, hK, hX, hXm, hst, hA, hXs, hbl, hbA⟩ := F
  have hl : lv_has ls 7 [(0, .ref b), (1, .ref ag), (2, .ref am), (3, .ref qo), (4, .int i)] := hl
  refine lv_aload_n hx hb dL_law_976 rfl (lv_at hl 1 rfl) ?_
  refine lv_aload_n hx hb dL_law_977 rfl (lv_at hl 0 rfl) ?_
  refine lv_iload hx hb dL_law_978 (lv_at hl 4 rfl) ?_
  refine lv_iconst (v := 1) hx hb dL_law_980 (by decide) ?_
  refine lv_iadd hx hb dL_law_981 ?_
  refine va_sld hx hb hXs hbl hbA hS (vin_law h0 h1 hL (by decide)) dL_law_982 ?_
  refine lv_aload_n hx hb dL_law_983 rfl (lv_at hl 3 rfl) ?_
  refine kHS (rest := []) (X := wg ++ [oc ct qo fo]) (pl := wm) ⟨hx, hb, hml, hown, hts⟩ (w_turn l hst D ct ad sw wa ag qo H.size o q wg fo (xs (i + 1).toNatClampNeg) hG) (vx_cwSW 3 hts kw_W_turn rfl rfl rfl (by decide +kernel) ⟨(Nat.le_of_ble_eq_true rfl), (Nat.le_of_ble_eq_true rfl)⟩) (EL_ok ad sw wa) hX hK hP hD hS hA rfl hl.1 rfl (Nat.le_of_ble_eq_true rfl) dL_law_984 ⟨by show cells + 5 ≤ 601024; omega, by show slots + 30 ≤ 7293034; omega⟩ (fun r u H locs hr hP hD hS => ?_)
  obtain ⟨w1, fo1, o1⟩ := u
  have hG1 : GI ct ad ag o q w1 := by
    have h := hr.1
    have e : o1 = o := hr.2
    rw [← e]
    exact h
  have hP : va_P D vwCl ((w1 ++ [oc ct qo fo1]) ++ wm) H := hP
  have hD : va_D A ((w1 ++ [oc ct qo fo1]) ++ wm) := hD
  refine lv_istore (lv' := [(5, .int r), (0, .ref b), (1, .ref ag), (2, .ref am), (3, .ref qo), (4, .int i)]) hx hb dL_law_987 hl (by decide) rfl (fun ls hl => ?_)
  refine lv_aload_n hx hb dL_law_989 rfl (lv_at hl 3 rfl) ?_
  refine lv_aload_n hx hb dL_law_990 rfl (lv_at hl 1 rfl) ?_
  refine lv_iload hx hb dL_law_991 (lv_at hl 5 rfl) ?_
  refine lv_iconst (v := 1) hx hb dL_law_993 (by decide) ?_
  refine lv_iadd hx hb dL_law_994 ?_
  refine va_sld hx hb hXs hbl hbA hS (vin_law h0 h1 hL (by decide)) dL_law_995 ?_
  refine sM_turn (rest := []) (wx := w1 ++ [oc ct qo fo1]) ⟨hx, hb, hml, hown, hts⟩ (cwV 1 hts kw_M_turn rfl rfl rfl (by decide +kernel) ⟨(Nat.le_of_ble_eq_true rfl), (Nat.le_of_ble_eq_true rfl)⟩) hM hK (pc_ hP) (dc_ hD) hS hA hl.1 (Nat.le_of_ble_eq_true rfl) dL_law_996 ⟨by show cells + 5 + 0 ≤ 601024; omega, by show slots + 30 + 0 ≤ 7293034; omega⟩ (xs (i + 1).toNatClampNeg) (fun r2 q2 w2 H locs hx2 hM2 hP hD hS => ?_)
  have hP := pc_ hP
  have hD := dc_ hD
  have hG2 : GI ct ad ag o q2 w1 := GI_kq hG1 hx2
  refine lv_istore (lv' := [(6, .int r2), (5, .int r), (0, .ref b), (1, .ref ag), (2, .ref am), (3, .ref qo), (4, .int i)]) hx hb dL_law_999 hl (by decide) rfl (fun ls hl => ?_)
  refine lv_goto (tgt := 1476) hx hb dL_law_1001 (by decide) ?_
  exact W.widen (by show cells + 5 + 0 ≤ cells + 5; omega) (by show slots + 30 + 0 ≤ slots + 30; omega) (K o q2 w1 w2 fo1 H locs ls hG2 hM2 hP hD hS (lv_sub hl [2, 3, 4, 5, 6] rfl))
theorem lc_21 (F : LF p l s m c b L xs D ct ad sw sad wa A) (h0 : 0 ≤ i.toInt) (h1 : i.toInt + 6 ≤ (L : Int)) (hL : L ≤ 3072) (hc : cells + 5 ≤ 601024 ∧ slots + 30 ≤ 7293034) (K : LK p l e s m below meth c b ag am qo D ct ad sad A Q i (cells + 5) (slots + 30)) (hG : GI ct ad ag o q wg) (hM : MI ct sad am o q (fun _ => True) wm) (hP : va_P D vwCl ((wg ++ [oc ct qo fo]) ++ wm) H) (hD : va_D A ((wg ++ [oc ct qo fo]) ++ wm)) (hS : va_S A s.heap H locs) (hl : lv_has ls 7 (lvL b ag am qo i)) : W p l e room_1 s m #[Value.ref b] below meth c H locs cells slots Q (F0 m 1004 ls []) := by
  obtain ⟨hx, hb, hml, hown, hts, hK, hX, hXm, hst, hA, hXs, hbl, hbA⟩ := F
  have hl : lv_has ls 7 [(0, .ref b), (1, .ref ag), (2, .ref am), (3, .ref qo), (4, .int i)] := hl
  refine lv_aload_n hx hb dL_law_1004 rfl (lv_at hl 1 rfl) ?_
  refine lv_aload_n hx hb dL_law_1005 rfl (lv_at hl 0 rfl) ?_
  refine lv_iload hx hb dL_law_1006 (lv_at hl 4 rfl) ?_
  refine lv_iconst (v := 1) hx hb dL_law_1008 (by decide) ?_
  refine lv_iadd hx hb dL_law_1009 ?_
  refine va_sld hx hb hXs hbl hbA hS (vin_law h0 h1 hL (by decide)) dL_law_1010 ?_
  refine lv_aload_n hx hb dL_law_1011 rfl (lv_at hl 0 rfl) ?_
  refine lv_iload hx hb dL_law_1012 (lv_at hl 4 rfl) ?_
  refine lv_iconst (v := 2) hx hb dL_law_1014 (by decide) ?_
  refine lv_iadd hx hb dL_law_1015 ?_
  refine va_sld hx hb hXs hbl hbA hS (vin_law h0 h1 hL (by decide)) dL_law_1016 ?_
  refine lv_aload_n hx hb dL_law_1017 rfl (lv_at hl 3 rfl) ?_
  refine kHS (rest := []) (X := wg ++ [oc ct qo fo]) (pl := wm) ⟨hx, hb, hml, hown, hts⟩ (w_lasts l hst D ct ad sw wa ag qo H.size o q wg fo (xs (i + 1).toNatClampNeg) (xs (i + 2).toNatClampNeg) hG) (vx_cwSW 4 hts kw_W_lasts rfl rfl rfl (by decide +kernel) ⟨(Nat.le_of_ble_eq_true rfl), (Nat.le_of_ble_eq_true rfl)⟩) (EL_ok ad sw wa) hX hK hP hD hS hA rfl hl.1 rfl (Nat.le_of_ble_eq_true rfl) dL_law_1018 ⟨by show cells + 5 ≤ 601024; omega, by show slots + 30 ≤ 7293034; omega⟩ (fun r u H locs hr hP hD hS => ?_)
  obtain ⟨w1, fo1, o1⟩ := u
  have hG1 : GI ct ad ag o q w1 := by
    have h := hr.1
    have e : o1 = o := hr.2
    rw [← e]
    exact h
  have hP : va_P D vwCl ((w1 ++ [oc ct qo fo1]) ++ wm) H := hP
  have hD : va_D A ((w1 ++ [oc ct qo fo1]) ++ wm) := hD
  refine lv_istore (lv' := [(5, .int r), (0, .ref b), (1, .ref ag), (2, .ref am), (3, .ref qo), (4, .int i)]) hx hb dL_law_1021 hl (by decide) rfl (fun ls hl => ?_)
  refine lv_aload_n hx hb dL_law_1023 rfl (lv_at hl 3 rfl) ?_
  refine lv_aload_n hx hb dL_law_1024 rfl (lv_at hl 1 rfl) ?_
  refine lv_iload hx hb dL_law_1025 (lv_at hl 5 rfl) ?_
  refine lv_iconst (v := 1) hx hb dL_law_1027 (by decide) ?_
  refine lv_iadd hx hb dL_law_1028 ?_
  refine va_sld hx hb hXs hbl hbA hS (vin_law h0 h1 hL (by decide)) dL_law_1029 ?_
  refine lv_aload_n hx hb dL_law_1030 rfl (lv_at hl 1 rfl) ?_
  refine lv_iload hx hb dL_law_1031 (lv_at hl 5 rfl) ?_
  refine lv_iconst (v := 2) hx hb dL_law_1033 (by decide) ?_
  refine lv_iadd hx hb dL_law_1034 ?_
  refine va_sld hx hb hXs hbl hbA hS (vin_law h0 h1 hL (by decide)) dL_law_1035 ?_
  refine sM_lasts (rest := []) (wx := w1 ++ [oc ct qo fo1]) ⟨hx, hb, hml, hown, hts⟩ (cwV 2 hts kw_M_lasts rfl rfl rfl (by decide +kernel) ⟨(Nat.le_of_ble_eq_true rfl), (Nat.le_of_ble_eq_true rfl)⟩) hM hK (pc_ hP) (dc_ hD) hS hA hl.1 (Nat.le_of_ble_eq_true rfl) dL_law_1036 ⟨by show cells + 5 + 0 ≤ 601024; omega, by show slots + 30 + 0 ≤ 7293034; omega⟩ (xs (i + 1).toNatClampNeg) (xs (i + 2).toNatClampNeg) (fun r2 q2 w2 H locs hx2 hM2 hP hD hS => ?_)
  have hP := pc_ hP
  have hD := dc_ hD
  have hG2 : GI ct ad ag o q2 w1 := GI_kq hG1 hx2
  refine lv_istore (lv' := [(6, .int r2), (5, .int r), (0, .ref b), (1, .ref ag), (2, .ref am), (3, .ref qo), (4, .int i)]) hx hb dL_law_1039 hl (by decide) rfl (fun ls hl => ?_)
  refine lv_goto (tgt := 1476) hx hb dL_law_1041 (by decide) ?_
  exact W.widen (by show cells + 5 + 0 ≤ cells + 5; omega) (by show slots + 30 + 0 ≤ slots + 30; omega) (K o q2 w1 w2 fo1 H locs ls hG2 hM2 hP hD hS (lv_sub hl [2, 3, 4, 5, 6] rfl))
theorem lc_22 (F : LF p l s m c b L xs D ct ad sw sad wa A) (h0 : 0 ≤ i.toInt) (h1 : i.toInt + 6 ≤ (L : Int)) (hL : L ≤ 3072) (hc : cells + 5 ≤ 601024 ∧ slots + 30 ≤ 7293034) (K : LK p l e s m below meth c b ag am qo D ct ad sad A Q i (cells + 5) (slots + 30)) (hG : GI ct ad ag o q wg) (hM : MI ct sad am o q (fun _ => True) wm) (hP : va_P D vwCl ((wg ++ [oc ct qo fo]) ++ wm) H) (hD : va_D A ((wg ++ [oc ct qo fo]) ++ wm)) (hS : va_S A s.heap H locs) (hl : lv_has ls 7 (lvL b ag am qo i)) : W p l e room_1 s m #[Value.ref b] below meth c H locs cells slots Q (F0 m 1044 ls []) := by
  obtain ⟨hx, hb, hml, hown, hts, hK, hX, hXm, hst, hA, hXs, hbl, hbA⟩ := F
  have hl : lv_has ls 7 [(0, .ref b), (1, .ref ag), (2, .ref am), (3, .ref qo), (4, .int i)] := hl
  refine lv_aload_n hx hb dL_law_1044 rfl (lv_at hl 1 rfl) ?_
  refine lv_aload_n hx hb dL_law_1045 rfl (lv_at hl 0 rfl) ?_
  refine lv_iload hx hb dL_law_1046 (lv_at hl 4 rfl) ?_
  refine lv_iconst (v := 1) hx hb dL_law_1048 (by decide) ?_
  refine lv_iadd hx hb dL_law_1049 ?_
  refine va_sld hx hb hXs hbl hbA hS (vin_law h0 h1 hL (by decide)) dL_law_1050 ?_
  refine lv_aload_n hx hb dL_law_1051 rfl (lv_at hl 0 rfl) ?_
  refine lv_iload hx hb dL_law_1052 (lv_at hl 4 rfl) ?_
  refine lv_iconst (v := 2) hx hb dL_law_1054 (by decide) ?_
  refine lv_iadd hx hb dL_law_1055 ?_
  refine va_sld hx hb hXs hbl hbA hS (vin_law h0 h1 hL (by decide)) dL_law_1056 ?_
  refine lv_aload_n hx hb dL_law_1057 rfl (lv_at hl 0 rfl) ?_
  refine lv_iload hx hb dL_law_1058 (lv_at hl 4 rfl) ?_
  refine lv_iconst (v := 3) hx hb dL_law_1060 (by decide) ?_
  refine lv_iadd hx hb dL_law_1061 ?_
  refine va_sld hx hb hXs hbl hbA hS (vin_law h0 h1 hL (by decide)) dL_law_1062 ?_
  refine lv_aload_n hx hb dL_law_1063 rfl (lv_at hl 3 rfl) ?_
  refine kHS (rest := []) (X := wg ++ [oc ct qo fo]) (pl := wm) ⟨hx, hb, hml, hown, hts⟩ (w_best l hst D ct ad sw wa ag qo H.size o q wg fo (xs (i + 1).toNatClampNeg) (xs (i + 2).toNatClampNeg) (xs (i + 3).toNatClampNeg) hG) (vx_cwSW 5 hts kw_W_best rfl rfl rfl (by decide +kernel) ⟨(Nat.le_of_ble_eq_true rfl), (Nat.le_of_ble_eq_true rfl)⟩) (EL_ok ad sw wa) hX hK hP hD hS hA rfl hl.1 rfl (Nat.le_of_ble_eq_true rfl) dL_law_1064 ⟨by show cells + 5 ≤ 601024; omega, by show slots + 30 ≤ 7293034; omega⟩ (fun r u H locs hr hP hD hS => ?_)
  obtain ⟨w1, fo1, o1⟩ := u
  have hG1 : GI ct ad ag o q w1 := by
    have h := hr.1
    have e : o1 = o := hr.2
    rw [← e]
    exact h
  have hP : va_P D vwCl ((w1 ++ [oc ct qo fo1]) ++ wm) H := hP
  have hD : va_D A ((w1 ++ [oc ct qo fo1]) ++ wm) := hD
  refine lv_istore (lv' := [(5, .int r), (0, .ref b), (1, .ref ag), (2, .ref am), (3, .ref qo), (4, .int i)]) hx hb dL_law_1067 hl (by decide) rfl (fun ls hl => ?_)
  refine lv_aload_n hx hb dL_law_1069 rfl (lv_at hl 3 rfl) ?_
  refine lv_aload_n hx hb dL_law_1070 rfl (lv_at hl 1 rfl) ?_
  refine lv_iload hx hb dL_law_1071 (lv_at hl 5 rfl) ?_
  refine lv_iconst (v := 1) hx hb dL_law_1073 (by decide) ?_
  refine lv_iadd hx hb dL_law_1074 ?_
  refine va_sld hx hb hXs hbl hbA hS (vin_law h0 h1 hL (by decide)) dL_law_1075 ?_
  refine lv_aload_n hx hb dL_law_1076 rfl (lv_at hl 1 rfl) ?_
  refine lv_iload hx hb dL_law_1077 (lv_at hl 5 rfl) ?_
  refine lv_iconst (v := 2) hx hb dL_law_1079 (by decide) ?_
  refine lv_iadd hx hb dL_law_1080 ?_
  refine va_sld hx hb hXs hbl hbA hS (vin_law h0 h1 hL (by decide)) dL_law_1081 ?_
  refine lv_aload_n hx hb dL_law_1082 rfl (lv_at hl 1 rfl) ?_
  refine lv_iload hx hb dL_law_1083 (lv_at hl 5 rfl) ?_
  refine lv_iconst (v := 3) hx hb dL_law_1085 (by decide) ?_
  refine lv_iadd hx hb dL_law_1086 ?_
  refine va_sld hx hb hXs hbl hbA hS (vin_law h0 h1 hL (by decide)) dL_law_1087 ?_
  refine sM_best (rest := []) (wx := w1 ++ [oc ct qo fo1]) ⟨hx, hb, hml, hown, hts⟩ (cwV 3 hts kw_M_best rfl rfl rfl (by decide +kernel) ⟨(Nat.le_of_ble_eq_true rfl), (Nat.le_of_ble_eq_true rfl)⟩) hM hK (pc_ hP) (dc_ hD) hS hA hl.1 (Nat.le_of_ble_eq_true rfl) dL_law_1088 ⟨by show cells + 5 + 0 ≤ 601024; omega, by show slots + 30 + 0 ≤ 7293034; omega⟩ (xs (i + 1).toNatClampNeg) (xs (i + 2).toNatClampNeg) (xs (i + 3).toNatClampNeg) (fun r2 q2 w2 H locs hx2 hM2 hP hD hS => ?_)
  have hP := pc_ hP
  have hD := dc_ hD
  have hG2 : GI ct ad ag o q2 w1 := GI_kq hG1 hx2
  refine lv_istore (lv' := [(6, .int r2), (5, .int r), (0, .ref b), (1, .ref ag), (2, .ref am), (3, .ref qo), (4, .int i)]) hx hb dL_law_1091 hl (by decide) rfl (fun ls hl => ?_)
  refine lv_goto (tgt := 1476) hx hb dL_law_1093 (by decide) ?_
  exact W.widen (by show cells + 5 + 0 ≤ cells + 5; omega) (by show slots + 30 + 0 ≤ slots + 30; omega) (K o q2 w1 w2 fo1 H locs ls hG2 hM2 hP hD hS (lv_sub hl [2, 3, 4, 5, 6] rfl))
theorem lc_23 (F : LF p l s m c b L xs D ct ad sw sad wa A) (h0 : 0 ≤ i.toInt) (h1 : i.toInt + 6 ≤ (L : Int)) (hL : L ≤ 3072) (hc : cells + 5 ≤ 601024 ∧ slots + 30 ≤ 7293034) (K : LK p l e s m below meth c b ag am qo D ct ad sad A Q i (cells + 5) (slots + 30)) (hG : GI ct ad ag o q wg) (hM : MI ct sad am o q (fun _ => True) wm) (hP : va_P D vwCl ((wg ++ [oc ct qo fo]) ++ wm) H) (hD : va_D A ((wg ++ [oc ct qo fo]) ++ wm)) (hS : va_S A s.heap H locs) (hl : lv_has ls 7 (lvL b ag am qo i)) : W p l e room_1 s m #[Value.ref b] below meth c H locs cells slots Q (F0 m 1096 ls []) := by
  obtain ⟨hx, hb, hml, hown, hts, hK, hX, hXm, hst, hA, hXs, hbl, hbA⟩ := F
  have hl : lv_has ls 7 [(0, .ref b), (1, .ref ag), (2, .ref am), (3, .ref qo), (4, .int i)] := hl
  refine lv_aload_n hx hb dL_law_1096 rfl (lv_at hl 1 rfl) ?_
  refine lv_aload_n hx hb dL_law_1097 rfl (lv_at hl 0 rfl) ?_
  refine lv_iload hx hb dL_law_1098 (lv_at hl 4 rfl) ?_
  refine lv_iconst (v := 1) hx hb dL_law_1100 (by decide) ?_
  refine lv_iadd hx hb dL_law_1101 ?_
  refine va_sld hx hb hXs hbl hbA hS (vin_law h0 h1 hL (by decide)) dL_law_1102 ?_
  refine lv_aload_n hx hb dL_law_1103 rfl (lv_at hl 0 rfl) ?_
  refine lv_iload hx hb dL_law_1104 (lv_at hl 4 rfl) ?_
  refine lv_iconst (v := 2) hx hb dL_law_1106 (by decide) ?_
  refine lv_iadd hx hb dL_law_1107 ?_
  refine va_sld hx hb hXs hbl hbA hS (vin_law h0 h1 hL (by decide)) dL_law_1108 ?_
  refine lv_aload_n hx hb dL_law_1109 rfl (lv_at hl 3 rfl) ?_
  refine kHS (rest := []) (X := wg ++ [oc ct qo fo]) (pl := wm) ⟨hx, hb, hml, hown, hts⟩ (w_greatest l hst D ct ad sw wa ag qo H.size o q wg fo (xs (i + 1).toNatClampNeg) (xs (i + 2).toNatClampNeg) hG) (vx_cwSW 4 hts kw_W_greatest rfl rfl rfl (by decide +kernel) ⟨(Nat.le_of_ble_eq_true rfl), (Nat.le_of_ble_eq_true rfl)⟩) (EL_ok ad sw wa) hX hK hP hD hS hA rfl hl.1 rfl (Nat.le_of_ble_eq_true rfl) dL_law_1110 ⟨by show cells + 5 ≤ 601024; omega, by show slots + 30 ≤ 7293034; omega⟩ (fun r u H locs hr hP hD hS => ?_)
  obtain ⟨w1, fo1, o1⟩ := u
  have hG1 : GI ct ad ag o q w1 := by
    have h := hr.1
    have e : o1 = o := hr.2
    rw [← e]
    exact h
  have hP : va_P D vwCl ((w1 ++ [oc ct qo fo1]) ++ wm) H := hP
  have hD : va_D A ((w1 ++ [oc ct qo fo1]) ++ wm) := hD
  refine lv_istore (lv' := [(5, .int r), (0, .ref b), (1, .ref ag), (2, .ref am), (3, .ref qo), (4, .int i)]) hx hb dL_law_1113 hl (by decide) rfl (fun ls hl => ?_)
  refine lv_aload_n hx hb dL_law_1115 rfl (lv_at hl 3 rfl) ?_
  refine lv_aload_n hx hb dL_law_1116 rfl (lv_at hl 1 rfl) ?_
  refine lv_iload hx hb dL_law_1117 (lv_at hl 5 rfl) ?_
  refine lv_iconst (v := 1) hx hb dL_law_1119 (by decide) ?_
  refine lv_iadd hx hb dL_law_1120 ?_
  refine va_sld hx hb hXs hbl hbA hS (vin_law h0 h1 hL (by decide)) dL_law_1121 ?_
  refine lv_aload_n hx hb dL_law_1122 rfl (lv_at hl 1 rfl) ?_
  refine lv_iload hx hb dL_law_1123 (lv_at hl 5 rfl) ?_
  refine lv_iconst (v := 2) hx hb dL_law_1125 (by decide) ?_
  refine lv_iadd hx hb dL_law_1126 ?_
  refine va_sld hx hb hXs hbl hbA hS (vin_law h0 h1 hL (by decide)) dL_law_1127 ?_
  refine sM_greatest (rest := []) (wx := w1 ++ [oc ct qo fo1]) ⟨hx, hb, hml, hown, hts⟩ (cwV 2 hts kw_M_greatest rfl rfl rfl (by decide +kernel) ⟨(Nat.le_of_ble_eq_true rfl), (Nat.le_of_ble_eq_true rfl)⟩) hM hK (pc_ hP) (dc_ hD) hS hA hl.1 (Nat.le_of_ble_eq_true rfl) dL_law_1128 ⟨by show cells + 5 + 0 ≤ 601024; omega, by show slots + 30 + 0 ≤ 7293034; omega⟩ (xs (i + 1).toNatClampNeg) (xs (i + 2).toNatClampNeg) (fun r2 q2 w2 H locs hx2 hM2 hP hD hS => ?_)
  have hP := pc_ hP
  have hD := dc_ hD
  have hG2 : GI ct ad ag o q2 w1 := GI_kq hG1 hx2
  refine lv_istore (lv' := [(6, .int r2), (5, .int r), (0, .ref b), (1, .ref ag), (2, .ref am), (3, .ref qo), (4, .int i)]) hx hb dL_law_1131 hl (by decide) rfl (fun ls hl => ?_)
  refine lv_goto (tgt := 1476) hx hb dL_law_1133 (by decide) ?_
  exact W.widen (by show cells + 5 + 0 ≤ cells + 5; omega) (by show slots + 30 + 0 ≤ slots + 30; omega) (K o q2 w1 w2 fo1 H locs ls hG2 hM2 hP hD hS (lv_sub hl [2, 3, 4, 5, 6] rfl))
end LC
