section LC
variable {p : Program} {l : Launch} {e : Env} {s : State} {m : MethodId} {below : List Frame} {meth : Method} {c : Code} {b L : Nat} {xs : Nat → Int32} {D : va_G} {ct : Nat → ClassId} {ad sw sad : Nat → Nat} {wa : Nat} {A : Nat → Prop} {Q : State → Prop} {ag am qo : Nat} {i : Int32} {cells slots : Nat} {o : OB} {q : OS} {wg wm : va_W} {fo : Nat → Int64} {H : Heap} {locs : List Loc} {ls : Array Slot}
theorem lc_12 (F : LF p l s m c b L xs D ct ad sw sad wa A) (h0 : 0 ≤ i.toInt) (h1 : i.toInt + 6 ≤ (L : Int)) (hL : L ≤ 3072) (hc : cells + 5 ≤ 601024 ∧ slots + 30 ≤ 7293034) (K : LK p l e s m below meth c b ag am qo D ct ad sad A Q i (cells + 5) (slots + 30)) (hG : GI ct ad ag o q wg) (hM : MI ct sad am o q (fun _ => True) wm) (hP : va_P D vwCl ((wg ++ [oc ct qo fo]) ++ wm) H) (hD : va_D A ((wg ++ [oc ct qo fo]) ++ wm)) (hS : va_S A s.heap H locs) (hl : lv_has ls 7 (lvL b ag am qo i)) : W p l e room_1 s m #[Value.ref b] below meth c H locs cells slots Q (F0 m 651 ls []) := by
  obtain ⟨hx, hb, hml, hown, hts, hK, hX, hXm, hst, hA, hXs, hbl, hbA⟩ := F
  have hl : lv_has ls 7 [(0, .ref b), (1, .ref ag), (2, .ref am), (3, .ref qo), (4, .int i)] := hl
  refine lv_aload_n hx hb dL_law_651 rfl (lv_at hl 1 rfl) ?_
  refine lv_aload_n hx hb dL_law_652 rfl (lv_at hl 0 rfl) ?_
  refine lv_iload hx hb dL_law_653 (lv_at hl 4 rfl) ?_
  refine lv_iconst (v := 1) hx hb dL_law_655 (by decide) ?_
  refine lv_iadd hx hb dL_law_656 ?_
  refine va_sld hx hb hXs hbl hbA hS (vin_law h0 h1 hL (by decide)) dL_law_657 ?_
  refine lv_aload_n hx hb dL_law_658 rfl (lv_at hl 0 rfl) ?_
  refine lv_iload hx hb dL_law_659 (lv_at hl 4 rfl) ?_
  refine lv_iconst (v := 2) hx hb dL_law_661 (by decide) ?_
  refine lv_iadd hx hb dL_law_662 ?_
  refine va_sld hx hb hXs hbl hbA hS (vin_law h0 h1 hL (by decide)) dL_law_663 ?_
  refine lv_aload_n hx hb dL_law_664 rfl (lv_at hl 0 rfl) ?_
  refine lv_iload hx hb dL_law_665 (lv_at hl 4 rfl) ?_
  refine lv_iconst (v := 3) hx hb dL_law_667 (by decide) ?_
  refine lv_iadd hx hb dL_law_668 ?_
  refine va_sld hx hb hXs hbl hbA hS (vin_law h0 h1 hL (by decide)) dL_law_669 ?_
  refine lv_aload_n hx hb dL_law_670 rfl (lv_at hl 3 rfl) ?_
  refine kHS (rest := []) (X := wg ++ [oc ct qo fo]) (pl := wm) ⟨hx, hb, hml, hown, hts⟩ (w_then l hst D ct ad sw wa ag qo H.size o q wg fo (xs (i + 1).toNatClampNeg) (xs (i + 2).toNatClampNeg) (xs (i + 3).toNatClampNeg) hG) (vx_cwSW 5 hts kw_W_then rfl rfl rfl (by decide +kernel) ⟨(Nat.le_of_ble_eq_true rfl), (Nat.le_of_ble_eq_true rfl)⟩) (EL_ok ad sw wa) hX hK hP hD hS hA rfl hl.1 rfl (Nat.le_of_ble_eq_true rfl) dL_law_671 ⟨by show cells + 5 ≤ 601024; omega, by show slots + 30 ≤ 7293034; omega⟩ (fun r u H locs hr hP hD hS => ?_)
  obtain ⟨w1, fo1, o1⟩ := u
  have hG1 : GI ct ad ag o q w1 := by
    have h := hr.1
    have e : o1 = o := hr.2
    rw [← e]
    exact h
  have hP : va_P D vwCl ((w1 ++ [oc ct qo fo1]) ++ wm) H := hP
  have hD : va_D A ((w1 ++ [oc ct qo fo1]) ++ wm) := hD
  refine lv_istore (lv' := [(5, .int r), (0, .ref b), (1, .ref ag), (2, .ref am), (3, .ref qo), (4, .int i)]) hx hb dL_law_674 hl (by decide) rfl (fun ls hl => ?_)
  refine lv_aload_n hx hb dL_law_676 rfl (lv_at hl 3 rfl) ?_
  refine lv_aload_n hx hb dL_law_677 rfl (lv_at hl 1 rfl) ?_
  refine lv_iload hx hb dL_law_678 (lv_at hl 5 rfl) ?_
  refine lv_iconst (v := 1) hx hb dL_law_680 (by decide) ?_
  refine lv_iadd hx hb dL_law_681 ?_
  refine va_sld hx hb hXs hbl hbA hS (vin_law h0 h1 hL (by decide)) dL_law_682 ?_
  refine lv_aload_n hx hb dL_law_683 rfl (lv_at hl 1 rfl) ?_
  refine lv_iload hx hb dL_law_684 (lv_at hl 5 rfl) ?_
  refine lv_iconst (v := 2) hx hb dL_law_686 (by decide) ?_
  refine lv_iadd hx hb dL_law_687 ?_
  refine va_sld hx hb hXs hbl hbA hS (vin_law h0 h1 hL (by decide)) dL_law_688 ?_
  refine lv_aload_n hx hb dL_law_689 rfl (lv_at hl 1 rfl) ?_
  refine lv_iload hx hb dL_law_690 (lv_at hl 5 rfl) ?_
  refine lv_iconst (v := 3) hx hb dL_law_692 (by decide) ?_
  refine lv_iadd hx hb dL_law_693 ?_
  refine va_sld hx hb hXs hbl hbA hS (vin_law h0 h1 hL (by decide)) dL_law_694 ?_
  refine sM_then (rest := []) (wx := w1 ++ [oc ct qo fo1]) ⟨hx, hb, hml, hown, hts⟩ (cwV 3 hts kw_M_then rfl rfl rfl (by decide +kernel) ⟨(Nat.le_of_ble_eq_true rfl), (Nat.le_of_ble_eq_true rfl)⟩) hM hK (pc_ hP) (dc_ hD) hS hA hl.1 (Nat.le_of_ble_eq_true rfl) dL_law_695 ⟨by show cells + 5 + 0 ≤ 601024; omega, by show slots + 30 + 0 ≤ 7293034; omega⟩ (xs (i + 1).toNatClampNeg) (xs (i + 2).toNatClampNeg) (xs (i + 3).toNatClampNeg) (fun r2 q2 w2 H locs hx2 hM2 hP hD hS => ?_)
  have hP := pc_ hP
  have hD := dc_ hD
  have hG2 : GI ct ad ag o q2 w1 := GI_kq hG1 hx2
  refine lv_istore (lv' := [(6, .int r2), (5, .int r), (0, .ref b), (1, .ref ag), (2, .ref am), (3, .ref qo), (4, .int i)]) hx hb dL_law_698 hl (by decide) rfl (fun ls hl => ?_)
  refine lv_goto (tgt := 1483) hx hb dL_law_700 (by decide) ?_
  exact W.widen (by show cells + 5 + 0 ≤ cells + 5; omega) (by show slots + 30 + 0 ≤ slots + 30; omega) (K o q2 w1 w2 fo1 H locs ls hG2 hM2 hP hD hS (lv_sub hl [2, 3, 4, 5, 6] rfl))
theorem lc_13 (F : LF p l s m c b L xs D ct ad sw sad wa A) (h0 : 0 ≤ i.toInt) (h1 : i.toInt + 6 ≤ (L : Int)) (hL : L ≤ 3072) (hc : cells + 5 ≤ 601024 ∧ slots + 30 ≤ 7293034) (K : LK p l e s m below meth c b ag am qo D ct ad sad A Q i (cells + 5) (slots + 30)) (hG : GI ct ad ag o q wg) (hM : MI ct sad am o q (fun _ => True) wm) (hP : va_P D vwCl ((wg ++ [oc ct qo fo]) ++ wm) H) (hD : va_D A ((wg ++ [oc ct qo fo]) ++ wm)) (hS : va_S A s.heap H locs) (hl : lv_has ls 7 (lvL b ag am qo i)) : W p l e room_1 s m #[Value.ref b] below meth c H locs cells slots Q (F0 m 703 ls []) := by
  obtain ⟨hx, hb, hml, hown, hts, hK, hX, hXm, hst, hA, hXs, hbl, hbA⟩ := F
  have hl : lv_has ls 7 [(0, .ref b), (1, .ref ag), (2, .ref am), (3, .ref qo), (4, .int i)] := hl
  refine lv_aload_n hx hb dL_law_703 rfl (lv_at hl 1 rfl) ?_
  refine lv_aload_n hx hb dL_law_704 rfl (lv_at hl 0 rfl) ?_
  refine lv_iload hx hb dL_law_705 (lv_at hl 4 rfl) ?_
  refine lv_iconst (v := 1) hx hb dL_law_707 (by decide) ?_
  refine lv_iadd hx hb dL_law_708 ?_
  refine va_sld hx hb hXs hbl hbA hS (vin_law h0 h1 hL (by decide)) dL_law_709 ?_
  refine lv_aload_n hx hb dL_law_710 rfl (lv_at hl 0 rfl) ?_
  refine lv_iload hx hb dL_law_711 (lv_at hl 4 rfl) ?_
  refine lv_iconst (v := 2) hx hb dL_law_713 (by decide) ?_
  refine lv_iadd hx hb dL_law_714 ?_
  refine va_sld hx hb hXs hbl hbA hS (vin_law h0 h1 hL (by decide)) dL_law_715 ?_
  refine lv_aload_n hx hb dL_law_716 rfl (lv_at hl 0 rfl) ?_
  refine lv_iload hx hb dL_law_717 (lv_at hl 4 rfl) ?_
  refine lv_iconst (v := 3) hx hb dL_law_719 (by decide) ?_
  refine lv_iadd hx hb dL_law_720 ?_
  refine va_sld hx hb hXs hbl hbA hS (vin_law h0 h1 hL (by decide)) dL_law_721 ?_
  refine lv_aload_n hx hb dL_law_722 rfl (lv_at hl 3 rfl) ?_
  refine kHS (rest := []) (X := wg ++ [oc ct qo fo]) (pl := wm) ⟨hx, hb, hml, hown, hts⟩ (w_where l hst D ct ad sw wa ag qo H.size o q wg fo (xs (i + 1).toNatClampNeg) (xs (i + 2).toNatClampNeg) (xs (i + 3).toNatClampNeg) hG) (vx_cwSW 5 hts kw_W_where rfl rfl rfl (by decide +kernel) ⟨(Nat.le_of_ble_eq_true rfl), (Nat.le_of_ble_eq_true rfl)⟩) (EL_ok ad sw wa) hX hK hP hD hS hA rfl hl.1 rfl (Nat.le_of_ble_eq_true rfl) dL_law_723 ⟨by show cells + 5 ≤ 601024; omega, by show slots + 30 ≤ 7293034; omega⟩ (fun r u H locs hr hP hD hS => ?_)
  obtain ⟨w1, fo1, o1⟩ := u
  have hG1 : GI ct ad ag o q w1 := by
    have h := hr.1
    have e : o1 = o := hr.2
    rw [← e]
    exact h
  have hP : va_P D vwCl ((w1 ++ [oc ct qo fo1]) ++ wm) H := hP
  have hD : va_D A ((w1 ++ [oc ct qo fo1]) ++ wm) := hD
  refine lv_istore (lv' := [(5, .int r), (0, .ref b), (1, .ref ag), (2, .ref am), (3, .ref qo), (4, .int i)]) hx hb dL_law_726 hl (by decide) rfl (fun ls hl => ?_)
  refine lv_aload_n hx hb dL_law_728 rfl (lv_at hl 3 rfl) ?_
  refine lv_aload_n hx hb dL_law_729 rfl (lv_at hl 1 rfl) ?_
  refine lv_iload hx hb dL_law_730 (lv_at hl 5 rfl) ?_
  refine lv_iconst (v := 1) hx hb dL_law_732 (by decide) ?_
  refine lv_iadd hx hb dL_law_733 ?_
  refine va_sld hx hb hXs hbl hbA hS (vin_law h0 h1 hL (by decide)) dL_law_734 ?_
  refine lv_aload_n hx hb dL_law_735 rfl (lv_at hl 1 rfl) ?_
  refine lv_iload hx hb dL_law_736 (lv_at hl 5 rfl) ?_
  refine lv_iconst (v := 2) hx hb dL_law_738 (by decide) ?_
  refine lv_iadd hx hb dL_law_739 ?_
  refine va_sld hx hb hXs hbl hbA hS (vin_law h0 h1 hL (by decide)) dL_law_740 ?_
  refine lv_aload_n hx hb dL_law_741 rfl (lv_at hl 1 rfl) ?_
  refine lv_iload hx hb dL_law_742 (lv_at hl 5 rfl) ?_
  refine lv_iconst (v := 3) hx hb dL_law_744 (by decide) ?_
  refine lv_iadd hx hb dL_law_745 ?_
  refine va_sld hx hb hXs hbl hbA hS (vin_law h0 h1 hL (by decide)) dL_law_746 ?_
  refine sM_where (rest := []) (wx := w1 ++ [oc ct qo fo1]) ⟨hx, hb, hml, hown, hts⟩ (cwV 3 hts kw_M_where rfl rfl rfl (by decide +kernel) ⟨(Nat.le_of_ble_eq_true rfl), (Nat.le_of_ble_eq_true rfl)⟩) hM hK (pc_ hP) (dc_ hD) hS hA hl.1 (Nat.le_of_ble_eq_true rfl) dL_law_747 ⟨by show cells + 5 + 0 ≤ 601024; omega, by show slots + 30 + 0 ≤ 7293034; omega⟩ (xs (i + 1).toNatClampNeg) (xs (i + 2).toNatClampNeg) (xs (i + 3).toNatClampNeg) (fun r2 q2 w2 H locs hx2 hM2 hP hD hS => ?_)
  have hP := pc_ hP
  have hD := dc_ hD
  have hG2 : GI ct ad ag o q2 w1 := GI_kq hG1 hx2
  refine lv_istore (lv' := [(6, .int r2), (5, .int r), (0, .ref b), (1, .ref ag), (2, .ref am), (3, .ref qo), (4, .int i)]) hx hb dL_law_750 hl (by decide) rfl (fun ls hl => ?_)
  refine lv_goto (tgt := 1483) hx hb dL_law_752 (by decide) ?_
  exact W.widen (by show cells + 5 + 0 ≤ cells + 5; omega) (by show slots + 30 + 0 ≤ slots + 30; omega) (K o q2 w1 w2 fo1 H locs ls hG2 hM2 hP hD hS (lv_sub hl [2, 3, 4, 5, 6] rfl))
theorem lc_14 (F : LF p l s m c b L xs D ct ad sw sad wa A) (h0 : 0 ≤ i.toInt) (h1 : i.toInt + 6 ≤ (L : Int)) (hL : L ≤ 3072) (hc : cells + 5 ≤ 601024 ∧ slots + 30 ≤ 7293034) (K : LK p l e s m below meth c b ag am qo D ct ad sad A Q i (cells + 5) (slots + 30)) (hG : GI ct ad ag o q wg) (hM : MI ct sad am o q (fun _ => True) wm) (hP : va_P D vwCl ((wg ++ [oc ct qo fo]) ++ wm) H) (hD : va_D A ((wg ++ [oc ct qo fo]) ++ wm)) (hS : va_S A s.heap H locs) (hl : lv_has ls 7 (lvL b ag am qo i)) : W p l e room_1 s m #[Value.ref b] below meth c H locs cells slots Q (F0 m 755 ls []) := by
  obtain ⟨hx, hb, hml, hown, hts, hK, hX, hXm, hst, hA, hXs, hbl, hbA⟩ := F
  have hl : lv_has ls 7 [(0, .ref b), (1, .ref ag), (2, .ref am), (3, .ref qo), (4, .int i)] := hl
  refine lv_aload_n hx hb dL_law_755 rfl (lv_at hl 1 rfl) ?_
  refine lv_aload_n hx hb dL_law_756 rfl (lv_at hl 0 rfl) ?_
  refine lv_iload hx hb dL_law_757 (lv_at hl 4 rfl) ?_
  refine lv_iconst (v := 1) hx hb dL_law_759 (by decide) ?_
  refine lv_iadd hx hb dL_law_760 ?_
  refine va_sld hx hb hXs hbl hbA hS (vin_law h0 h1 hL (by decide)) dL_law_761 ?_
  refine lv_aload_n hx hb dL_law_762 rfl (lv_at hl 3 rfl) ?_
  refine kHS (rest := []) (X := wg ++ [oc ct qo fo]) (pl := wm) ⟨hx, hb, hml, hown, hts⟩ (w_loaf l hst D ct ad sw wa ag qo H.size o q wg fo (xs (i + 1).toNatClampNeg) hG) (vx_cwSW 3 hts kw_W_loaf rfl rfl rfl (by decide +kernel) ⟨(Nat.le_of_ble_eq_true rfl), (Nat.le_of_ble_eq_true rfl)⟩) (EL_ok ad sw wa) hX hK hP hD hS hA rfl hl.1 rfl (Nat.le_of_ble_eq_true rfl) dL_law_763 ⟨by show cells + 5 ≤ 601024; omega, by show slots + 30 ≤ 7293034; omega⟩ (fun r u H locs hr hP hD hS => ?_)
  obtain ⟨w1, fo1, o1⟩ := u
  have hG1 : GI ct ad ag o q w1 := by
    have h := hr.1
    have e : o1 = o := hr.2
    rw [← e]
    exact h
  have hP : va_P D vwCl ((w1 ++ [oc ct qo fo1]) ++ wm) H := hP
  have hD : va_D A ((w1 ++ [oc ct qo fo1]) ++ wm) := hD
  refine lv_istore (lv' := [(5, .int r), (0, .ref b), (1, .ref ag), (2, .ref am), (3, .ref qo), (4, .int i)]) hx hb dL_law_766 hl (by decide) rfl (fun ls hl => ?_)
  refine lv_aload_n hx hb dL_law_768 rfl (lv_at hl 3 rfl) ?_
  refine lv_aload_n hx hb dL_law_769 rfl (lv_at hl 1 rfl) ?_
  refine lv_iload hx hb dL_law_770 (lv_at hl 5 rfl) ?_
  refine lv_iconst (v := 1) hx hb dL_law_772 (by decide) ?_
  refine lv_iadd hx hb dL_law_773 ?_
  refine va_sld hx hb hXs hbl hbA hS (vin_law h0 h1 hL (by decide)) dL_law_774 ?_
  refine sM_loaf (rest := []) (wx := w1 ++ [oc ct qo fo1]) ⟨hx, hb, hml, hown, hts⟩ (cwV 1 hts kw_M_loaf rfl rfl rfl (by decide +kernel) ⟨(Nat.le_of_ble_eq_true rfl), (Nat.le_of_ble_eq_true rfl)⟩) hM hK (pc_ hP) (dc_ hD) hS hA hl.1 (Nat.le_of_ble_eq_true rfl) dL_law_775 ⟨by show cells + 5 + 0 ≤ 601024; omega, by show slots + 30 + 0 ≤ 7293034; omega⟩ (xs (i + 1).toNatClampNeg) (fun r2 q2 w2 H locs hx2 hM2 hP hD hS => ?_)
  have hP := pc_ hP
  have hD := dc_ hD
  have hG2 : GI ct ad ag o q2 w1 := GI_kq hG1 hx2
  refine lv_istore (lv' := [(6, .int r2), (5, .int r), (0, .ref b), (1, .ref ag), (2, .ref am), (3, .ref qo), (4, .int i)]) hx hb dL_law_778 hl (by decide) rfl (fun ls hl => ?_)
  refine lv_goto (tgt := 1483) hx hb dL_law_780 (by decide) ?_
  exact W.widen (by show cells + 5 + 0 ≤ cells + 5; omega) (by show slots + 30 + 0 ≤ slots + 30; omega) (K o q2 w1 w2 fo1 H locs ls hG2 hM2 hP hD hS (lv_sub hl [2, 3, 4, 5, 6] rfl))
theorem lc_15 (F : LF p l s m c b L xs D ct ad sw sad wa A) (h0 : 0 ≤ i.toInt) (h1 : i.toInt + 6 ≤ (L : Int)) (hL : L ≤ 3072) (hc : cells + 5 ≤ 601024 ∧ slots + 30 ≤ 7293034) (K : LK p l e s m below meth c b ag am qo D ct ad sad A Q i (cells + 5) (slots + 30)) (hG : GI ct ad ag o q wg) (hM : MI ct sad am o q (fun _ => True) wm) (hP : va_P D vwCl ((wg ++ [oc ct qo fo]) ++ wm) H) (hD : va_D A ((wg ++ [oc ct qo fo]) ++ wm)) (hS : va_S A s.heap H locs) (hl : lv_has ls 7 (lvL b ag am qo i)) : W p l e room_1 s m #[Value.ref b] below meth c H locs cells slots Q (F0 m 783 ls []) := by
  obtain ⟨hx, hb, hml, hown, hts, hK, hX, hXm, hst, hA, hXs, hbl, hbA⟩ := F
  have hl : lv_has ls 7 [(0, .ref b), (1, .ref ag), (2, .ref am), (3, .ref qo), (4, .int i)] := hl
  refine lv_aload_n hx hb dL_law_783 rfl (lv_at hl 1 rfl) ?_
  refine lv_aload_n hx hb dL_law_784 rfl (lv_at hl 0 rfl) ?_
  refine lv_iload hx hb dL_law_785 (lv_at hl 4 rfl) ?_
  refine lv_iconst (v := 1) hx hb dL_law_787 (by decide) ?_
  refine lv_iadd hx hb dL_law_788 ?_
  refine va_sld hx hb hXs hbl hbA hS (vin_law h0 h1 hL (by decide)) dL_law_789 ?_
  refine lv_aload_n hx hb dL_law_790 rfl (lv_at hl 0 rfl) ?_
  refine lv_iload hx hb dL_law_791 (lv_at hl 4 rfl) ?_
  refine lv_iconst (v := 2) hx hb dL_law_793 (by decide) ?_
  refine lv_iadd hx hb dL_law_794 ?_
  refine va_sld hx hb hXs hbl hbA hS (vin_law h0 h1 hL (by decide)) dL_law_795 ?_
  refine lv_aload_n hx hb dL_law_796 rfl (lv_at hl 3 rfl) ?_
  refine kHS (rest := []) (X := wg ++ [oc ct qo fo]) (pl := wm) ⟨hx, hb, hml, hown, hts⟩ (w_later l hst D ct ad sw wa ag qo H.size o q wg fo (xs (i + 1).toNatClampNeg) (xs (i + 2).toNatClampNeg) hG) (vx_cwSW 4 hts kw_W_later rfl rfl rfl (by decide +kernel) ⟨(Nat.le_of_ble_eq_true rfl), (Nat.le_of_ble_eq_true rfl)⟩) (EL_ok ad sw wa) hX hK hP hD hS hA rfl hl.1 rfl (Nat.le_of_ble_eq_true rfl) dL_law_797 ⟨by show cells + 5 ≤ 601024; omega, by show slots + 30 ≤ 7293034; omega⟩ (fun r u H locs hr hP hD hS => ?_)
  obtain ⟨w1, fo1, o1⟩ := u
  have hG1 : GI ct ad ag o q w1 := by
    have h := hr.1
    have e : o1 = o := hr.2
    rw [← e]
    exact h
  have hP : va_P D vwCl ((w1 ++ [oc ct qo fo1]) ++ wm) H := hP
  have hD : va_D A ((w1 ++ [oc ct qo fo1]) ++ wm) := hD
  refine lv_istore (lv' := [(5, .int r), (0, .ref b), (1, .ref ag), (2, .ref am), (3, .ref qo), (4, .int i)]) hx hb dL_law_800 hl (by decide) rfl (fun ls hl => ?_)
  refine lv_aload_n hx hb dL_law_802 rfl (lv_at hl 3 rfl) ?_
  refine lv_aload_n hx hb dL_law_803 rfl (lv_at hl 1 rfl) ?_
  refine lv_iload hx hb dL_law_804 (lv_at hl 5 rfl) ?_
  refine lv_iconst (v := 1) hx hb dL_law_806 (by decide) ?_
  refine lv_iadd hx hb dL_law_807 ?_
  refine va_sld hx hb hXs hbl hbA hS (vin_law h0 h1 hL (by decide)) dL_law_808 ?_
  refine lv_aload_n hx hb dL_law_809 rfl (lv_at hl 1 rfl) ?_
  refine lv_iload hx hb dL_law_810 (lv_at hl 5 rfl) ?_
  refine lv_iconst (v := 2) hx hb dL_law_812 (by decide) ?_
  refine lv_iadd hx hb dL_law_813 ?_
  refine va_sld hx hb hXs hbl hbA hS (vin_law h0 h1 hL (by decide)) dL_law_814 ?_
  refine sM_later (rest := []) (wx := w1 ++ [oc ct qo fo1]) ⟨hx, hb, hml, hown, hts⟩ (cwV 2 hts kw_M_later rfl rfl rfl (by decide +kernel) ⟨(Nat.le_of_ble_eq_true rfl), (Nat.le_of_ble_eq_true rfl)⟩) hM hK (pc_ hP) (dc_ hD) hS hA hl.1 (Nat.le_of_ble_eq_true rfl) dL_law_815 ⟨by show cells + 5 + 0 ≤ 601024; omega, by show slots + 30 + 0 ≤ 7293034; omega⟩ (xs (i + 1).toNatClampNeg) (xs (i + 2).toNatClampNeg) (fun r2 q2 w2 H locs hx2 hM2 hP hD hS => ?_)
  have hP := pc_ hP
  have hD := dc_ hD
  have hG2 : GI ct ad ag o q2 w1 := GI_kq hG1 hx2
  refine lv_istore (lv' := [(6, .int r2), (5, .int r), (0, .ref b), (1, .ref ag), (2, .ref am), (3, .ref qo), (4, .int i)]) hx hb dL_law_818 hl (by decide) rfl (fun ls hl => ?_)
  refine lv_goto (tgt := 1483) hx hb dL_law_820 (by decide) ?_
  exact W.widen (by show cells + 5 + 0 ≤ cells + 5; omega) (by show slots + 30 + 0 ≤ slots + 30; omega) (K o q2 w1 w2 fo1 H locs ls hG2 hM2 hP hD hS (lv_sub hl [2, 3, 4, 5, 6] rfl))
theorem lc_16 (F : LF p l s m c b L xs D ct ad sw sad wa A) (h0 : 0 ≤ i.toInt) (h1 : i.toInt + 6 ≤ (L : Int)) (hL : L ≤ 3072) (hc : cells + 5 ≤ 601024 ∧ slots + 30 ≤ 7293034) (K : LK p l e s m below meth c b ag am qo D ct ad sad A Q i (cells + 5) (slots + 30)) (hG : GI ct ad ag o q wg) (hM : MI ct sad am o q (fun _ => True) wm) (hP : va_P D vwCl ((wg ++ [oc ct qo fo]) ++ wm) H) (hD : va_D A ((wg ++ [oc ct qo fo]) ++ wm)) (hS : va_S A s.heap H locs) (hl : lv_has ls 7 (lvL b ag am qo i)) : W p l e room_1 s m #[Value.ref b] below meth c H locs cells slots Q (F0 m 823 ls []) := by
  obtain ⟨hx, hb, hml, hown, hts, hK, hX, hXm, hst, hA, hXs, hbl, hbA⟩ := F
  have hl : lv_has ls 7 [(0, .ref b), (1, .ref ag), (2, .ref am), (3, .ref qo), (4, .int i)] := hl
  refine lv_aload_n hx hb dL_law_823 rfl (lv_at hl 1 rfl) ?_
  refine lv_aload_n hx hb dL_law_824 rfl (lv_at hl 0 rfl) ?_
  refine lv_iload hx hb dL_law_825 (lv_at hl 4 rfl) ?_
  refine lv_iconst (v := 1) hx hb dL_law_827 (by decide) ?_
  refine lv_iadd hx hb dL_law_828 ?_
  refine va_sld hx hb hXs hbl hbA hS (vin_law h0 h1 hL (by decide)) dL_law_829 ?_
  refine lv_aload_n hx hb dL_law_830 rfl (lv_at hl 0 rfl) ?_
  refine lv_iload hx hb dL_law_831 (lv_at hl 4 rfl) ?_
  refine lv_iconst (v := 2) hx hb dL_law_833 (by decide) ?_
  refine lv_iadd hx hb dL_law_834 ?_
  refine va_sld hx hb hXs hbl hbA hS (vin_law h0 h1 hL (by decide)) dL_law_835 ?_
  refine lv_aload_n hx hb dL_law_836 rfl (lv_at hl 3 rfl) ?_
  refine kHS (rest := []) (X := wg ++ [oc ct qo fo]) (pl := wm) ⟨hx, hb, hml, hown, hts⟩ (w_sat l hst D ct ad sw wa ag qo H.size o q wg fo (xs (i + 1).toNatClampNeg) (xs (i + 2).toNatClampNeg) hG) (vx_cwSW 4 hts kw_W_sat rfl rfl rfl (by decide +kernel) ⟨(Nat.le_of_ble_eq_true rfl), (Nat.le_of_ble_eq_true rfl)⟩) (EL_ok ad sw wa) hX hK hP hD hS hA rfl hl.1 rfl (Nat.le_of_ble_eq_true rfl) dL_law_837 ⟨by show cells + 5 ≤ 601024; omega, by show slots + 30 ≤ 7293034; omega⟩ (fun r u H locs hr hP hD hS => ?_)
  obtain ⟨w1, fo1, o1⟩ := u
  have hG1 : GI ct ad ag o q w1 := by
    have h := hr.1
    have e : o1 = o := hr.2
    rw [← e]
    exact h
  have hP : va_P D vwCl ((w1 ++ [oc ct qo fo1]) ++ wm) H := hP
  have hD : va_D A ((w1 ++ [oc ct qo fo1]) ++ wm) := hD
  refine lv_istore (lv' := [(5, .int r), (0, .ref b), (1, .ref ag), (2, .ref am), (3, .ref qo), (4, .int i)]) hx hb dL_law_840 hl (by decide) rfl (fun ls hl => ?_)
  refine lv_aload_n hx hb dL_law_842 rfl (lv_at hl 3 rfl) ?_
  refine lv_aload_n hx hb dL_law_843 rfl (lv_at hl 1 rfl) ?_
  refine lv_iload hx hb dL_law_844 (lv_at hl 5 rfl) ?_
  refine lv_iconst (v := 1) hx hb dL_law_846 (by decide) ?_
  refine lv_iadd hx hb dL_law_847 ?_
  refine va_sld hx hb hXs hbl hbA hS (vin_law h0 h1 hL (by decide)) dL_law_848 ?_
  refine lv_aload_n hx hb dL_law_849 rfl (lv_at hl 1 rfl) ?_
  refine lv_iload hx hb dL_law_850 (lv_at hl 5 rfl) ?_
  refine lv_iconst (v := 2) hx hb dL_law_852 (by decide) ?_
  refine lv_iadd hx hb dL_law_853 ?_
  refine va_sld hx hb hXs hbl hbA hS (vin_law h0 h1 hL (by decide)) dL_law_854 ?_
  refine sM_sat (rest := []) (wx := w1 ++ [oc ct qo fo1]) ⟨hx, hb, hml, hown, hts⟩ (cwV 2 hts kw_M_sat rfl rfl rfl (by decide +kernel) ⟨(Nat.le_of_ble_eq_true rfl), (Nat.le_of_ble_eq_true rfl)⟩) hM hK (pc_ hP) (dc_ hD) hS hA hl.1 (Nat.le_of_ble_eq_true rfl) dL_law_855 ⟨by show cells + 5 + 0 ≤ 601024; omega, by show slots + 30 + 0 ≤ 7293034; omega⟩ (xs (i + 1).toNatClampNeg) (xs (i + 2).toNatClampNeg) (fun r2 q2 w2 H locs hx2 hM2 hP hD hS => ?_)
  have hP := pc_ hP
  have hD := dc_ hD
  have hG2 : GI ct ad ag o q2 w1 := GI_kq hG1 hx2
  refine lv_istore (lv' := [(6, .int r2), (5, .int r), (0, .ref b), (1, .ref ag), (2, .ref am), (3, .ref qo), (4, .int i)]) hx hb dL_law_858 hl (by decide) rfl (fun ls hl => ?_)
  refine lv_goto (tgt := 1483) hx hb dL_law_860 (by decide) ?_
  exact W.widen (by show cells + 5 + 0 ≤ cells + 5; omega) (by show slots + 30 + 0 ≤ slots + 30; omega) (K o q2 w1 w2 fo1 H locs ls hG2 hM2 hP hD hS (lv_sub hl [2, 3, 4, 5, 6] rfl))
theorem lc_17 (F : LF p l s m c b L xs D ct ad sw sad wa A) (h0 : 0 ≤ i.toInt) (h1 : i.toInt + 6 ≤ (L : Int)) (hL : L ≤ 3072) (hc : cells + 5 ≤ 601024 ∧ slots + 30 ≤ 7293034) (K : LK p l e s m below meth c b ag am qo D ct ad sad A Q i (cells + 5) (slots + 30)) (hG : GI ct ad ag o q wg) (hM : MI ct sad am o q (fun _ => True) wm) (hP : va_P D vwCl ((wg ++ [oc ct qo fo]) ++ wm) H) (hD : va_D A ((wg ++ [oc ct qo fo]) ++ wm)) (hS : va_S A s.heap H locs) (hl : lv_has ls 7 (lvL b ag am qo i)) : W p l e room_1 s m #[Value.ref b] below meth c H locs cells slots Q (F0 m 863 ls []) := by
  obtain ⟨hx, hb, hml, hown, hts, hK, hX, hXm, hst, hA, hXs, hbl, hbA⟩ := F
  have hl : lv_has ls 7 [(0, .ref b), (1, .ref ag), (2, .ref am), (3, .ref qo), (4, .int i)] := hl
  refine lv_aload_n hx hb dL_law_863 rfl (lv_at hl 1 rfl) ?_
  refine lv_aload_n hx hb dL_law_864 rfl (lv_at hl 0 rfl) ?_
  refine lv_iload hx hb dL_law_865 (lv_at hl 4 rfl) ?_
  refine lv_iconst (v := 1) hx hb dL_law_867 (by decide) ?_
  refine lv_iadd hx hb dL_law_868 ?_
  refine va_sld hx hb hXs hbl hbA hS (vin_law h0 h1 hL (by decide)) dL_law_869 ?_
  refine lv_aload_n hx hb dL_law_870 rfl (lv_at hl 0 rfl) ?_
  refine lv_iload hx hb dL_law_871 (lv_at hl 4 rfl) ?_
  refine lv_iconst (v := 2) hx hb dL_law_873 (by decide) ?_
  refine lv_iadd hx hb dL_law_874 ?_
  refine va_sld hx hb hXs hbl hbA hS (vin_law h0 h1 hL (by decide)) dL_law_875 ?_
  refine lv_aload_n hx hb dL_law_876 rfl (lv_at hl 3 rfl) ?_
  refine kHS (rest := []) (X := wg ++ [oc ct qo fo]) (pl := wm) ⟨hx, hb, hml, hown, hts⟩ (w_fits l hst D ct ad sw wa ag qo H.size o q wg fo (xs (i + 1).toNatClampNeg) (xs (i + 2).toNatClampNeg) hG) (vx_cwSW 4 hts kw_W_fits rfl rfl rfl (by decide +kernel) ⟨(Nat.le_of_ble_eq_true rfl), (Nat.le_of_ble_eq_true rfl)⟩) (EL_ok ad sw wa) hX hK hP hD hS hA rfl hl.1 rfl (Nat.le_of_ble_eq_true rfl) dL_law_877 ⟨by show cells + 5 ≤ 601024; omega, by show slots + 30 ≤ 7293034; omega⟩ (fun r u H locs hr hP hD hS => ?_)
  obtain ⟨w1, fo1, o1⟩ := u
  have hG1 : GI ct ad ag o q w1 := by
    have h := hr.1
    have e : o1 = o := hr.2
    rw [← e]
    exact h
  have hP : va_P D vwCl ((w1 ++ [oc ct qo fo1]) ++ wm) H := hP
  have hD : va_D A ((w1 ++ [oc ct qo fo1]) ++ wm) := hD
  refine lv_istore (lv' := [(5, .int r), (0, .ref b), (1, .ref ag), (2, .ref am), (3, .ref qo), (4, .int i)]) hx hb dL_law_880 hl (by decide) rfl (fun ls hl => ?_)
  refine lv_aload_n hx hb dL_law_882 rfl (lv_at hl 3 rfl) ?_
  refine lv_aload_n hx hb dL_law_883 rfl (lv_at hl 1 rfl) ?_
  refine lv_iload hx hb dL_law_884 (lv_at hl 5 rfl) ?_
  refine lv_iconst (v := 1) hx hb dL_law_886 (by decide) ?_
  refine lv_iadd hx hb dL_law_887 ?_
  refine va_sld hx hb hXs hbl hbA hS (vin_law h0 h1 hL (by decide)) dL_law_888 ?_
  refine lv_aload_n hx hb dL_law_889 rfl (lv_at hl 1 rfl) ?_
  refine lv_iload hx hb dL_law_890 (lv_at hl 5 rfl) ?_
  refine lv_iconst (v := 2) hx hb dL_law_892 (by decide) ?_
  refine lv_iadd hx hb dL_law_893 ?_
  refine va_sld hx hb hXs hbl hbA hS (vin_law h0 h1 hL (by decide)) dL_law_894 ?_
  refine sM_fits (rest := []) (wx := w1 ++ [oc ct qo fo1]) ⟨hx, hb, hml, hown, hts⟩ (cwV 2 hts kw_M_fits rfl rfl rfl (by decide +kernel) ⟨(Nat.le_of_ble_eq_true rfl), (Nat.le_of_ble_eq_true rfl)⟩) hM hK (pc_ hP) (dc_ hD) hS hA hl.1 (Nat.le_of_ble_eq_true rfl) dL_law_895 ⟨by show cells + 5 + 0 ≤ 601024; omega, by show slots + 30 + 0 ≤ 7293034; omega⟩ (xs (i + 1).toNatClampNeg) (xs (i + 2).toNatClampNeg) (fun r2 q2 w2 H locs hx2 hM2 hP hD hS => ?_)
  have hP := pc_ hP
  have hD := dc_ hD
  have hG2 : GI ct ad ag o q2 w1 := GI_kq hG1 hx2
  refine lv_istore (lv' := [(6, .int r2), (5, .int r), (0, .ref b), (1, .ref ag), (2, .ref am), (3, .ref qo), (4, .int i)]) hx hb dL_law_898 hl (by decide) rfl (fun ls hl => ?_)
  refine lv_goto (tgt := 1483) hx hb dL_law_900 (by decide) ?_
  exact W.widen (by show cells + 5 + 0 ≤ cells + 5; omega) (by show slots + 30 + 0 ≤ slots + 30; omega) (K o q2 w1 w2 fo1 H locs ls hG2 hM2 hP hD hS (lv_sub hl [2, 3, 4, 5, 6] rfl))
theorem lc_18 (F : LF p l s m c b L xs D ct ad sw sad wa A) (h0 : 0 ≤ i.toInt) (h1 : i.toInt + 6 ≤ (L : Int)) (hL : L ≤ 3072) (hc : cells + 5 ≤ 601024 ∧ slots + 30 ≤ 7293034) (K : LK p l e s m below meth c b ag am qo D ct ad sad A Q i (cells + 5) (slots + 30)) (hG : GI ct ad ag o q wg) (hM : MI ct sad am o q (fun _ => True) wm) (hP : va_P D vwCl ((wg ++ [oc ct qo fo]) ++ wm) H) (hD : va_D A ((wg ++ [oc ct qo fo]) ++ wm)) (hS : va_S A s.heap H locs) (hl : lv_has ls 7 (lvL b ag am qo i)) : W p l e room_1 s m #[Value.ref b] below meth c H locs cells slots Q (F0 m 903 ls []) := by
  obtain ⟨hx, hb, hml, hown, hts, hK, hX, hXm, hst, hA, hXs, hbl, hbA⟩ := F
  have hl : lv_has ls 7 [(0, .ref b), (1, .ref ag), (2, .ref am), (3, .ref qo), (4, .int i)] := hl
  refine lv_aload_n hx hb dL_law_903 rfl (lv_at hl 1 rfl) ?_
  refine lv_aload_n hx hb dL_law_904 rfl (lv_at hl 0 rfl) ?_
  refine lv_iload hx hb dL_law_905 (lv_at hl 4 rfl) ?_
  refine lv_iconst (v := 1) hx hb dL_law_907 (by decide) ?_
  refine lv_iadd hx hb dL_law_908 ?_
  refine va_sld hx hb hXs hbl hbA hS (vin_law h0 h1 hL (by decide)) dL_law_909 ?_
  refine lv_aload_n hx hb dL_law_910 rfl (lv_at hl 0 rfl) ?_
  refine lv_iload hx hb dL_law_911 (lv_at hl 4 rfl) ?_
  refine lv_iconst (v := 2) hx hb dL_law_913 (by decide) ?_
  refine lv_iadd hx hb dL_law_914 ?_
  refine va_sld hx hb hXs hbl hbA hS (vin_law h0 h1 hL (by decide)) dL_law_915 ?_
  refine lv_aload_n hx hb dL_law_916 rfl (lv_at hl 0 rfl) ?_
  refine lv_iload hx hb dL_law_917 (lv_at hl 4 rfl) ?_
  refine lv_iconst (v := 3) hx hb dL_law_919 (by decide) ?_
  refine lv_iadd hx hb dL_law_920 ?_
  refine va_sld hx hb hXs hbl hbA hS (vin_law h0 h1 hL (by decide)) dL_law_921 ?_
  refine lv_aload_n hx hb dL_law_922 rfl (lv_at hl 3 rfl) ?_
  refine kHS (rest := []) (X := wg ++ [oc ct qo fo]) (pl := wm) ⟨hx, hb, hml, hown, hts⟩ (w_unlike l hst D ct ad sw wa ag qo H.size o q wg fo (xs (i + 1).toNatClampNeg) (xs (i + 2).toNatClampNeg) (xs (i + 3).toNatClampNeg) hG) (vx_cwSW 5 hts kw_W_unlike rfl rfl rfl (by decide +kernel) ⟨(Nat.le_of_ble_eq_true rfl), (Nat.le_of_ble_eq_true rfl)⟩) (EL_ok ad sw wa) hX hK hP hD hS hA rfl hl.1 rfl (Nat.le_of_ble_eq_true rfl) dL_law_923 ⟨by show cells + 5 ≤ 601024; omega, by show slots + 30 ≤ 7293034; omega⟩ (fun r u H locs hr hP hD hS => ?_)
  obtain ⟨w1, fo1, o1⟩ := u
  have hG1 : GI ct ad ag o q w1 := by
    have h := hr.1
    have e : o1 = o := hr.2
    rw [← e]
    exact h
  have hP : va_P D vwCl ((w1 ++ [oc ct qo fo1]) ++ wm) H := hP
  have hD : va_D A ((w1 ++ [oc ct qo fo1]) ++ wm) := hD
  refine lv_istore (lv' := [(5, .int r), (0, .ref b), (1, .ref ag), (2, .ref am), (3, .ref qo), (4, .int i)]) hx hb dL_law_926 hl (by decide) rfl (fun ls hl => ?_)
  refine lv_aload_n hx hb dL_law_928 rfl (lv_at hl 3 rfl) ?_
  refine lv_aload_n hx hb dL_law_929 rfl (lv_at hl 1 rfl) ?_
  refine lv_iload hx hb dL_law_930 (lv_at hl 5 rfl) ?_
  refine lv_iconst (v := 1) hx hb dL_law_932 (by decide) ?_
  refine lv_iadd hx hb dL_law_933 ?_
  refine va_sld hx hb hXs hbl hbA hS (vin_law h0 h1 hL (by decide)) dL_law_934 ?_
  refine lv_aload_n hx hb dL_law_935 rfl (lv_at hl 1 rfl) ?_
  refine lv_iload hx hb dL_law_936 (lv_at hl 5 rfl) ?_
  refine lv_iconst (v := 2) hx hb dL_law_938 (by decide) ?_
  refine lv_iadd hx hb dL_law_939 ?_
  refine va_sld hx hb hXs hbl hbA hS (vin_law h0 h1 hL (by decide)) dL_law_940 ?_
  refine lv_aload_n hx hb dL_law_941 rfl (lv_at hl 1 rfl) ?_
  refine lv_iload hx hb dL_law_942 (lv_at hl 5 rfl) ?_
  refine lv_iconst (v := 3) hx hb dL_law_944 (by decide) ?_
  refine lv_iadd hx hb dL_law_945 ?_
  refine va_sld hx hb hXs hbl hbA hS (vin_law h0 h1 hL (by decide)) dL_law_946 ?_
  refine sM_unlike (rest := []) (wx := w1 ++ [oc ct qo fo1]) ⟨hx, hb, hml, hown, hts⟩ (cwV 3 hts kw_M_unlike rfl rfl rfl (by decide +kernel) ⟨(Nat.le_of_ble_eq_true rfl), (Nat.le_of_ble_eq_true rfl)⟩) hM hK (pc_ hP) (dc_ hD) hS hA hl.1 (Nat.le_of_ble_eq_true rfl) dL_law_947 ⟨by show cells + 5 + 0 ≤ 601024; omega, by show slots + 30 + 0 ≤ 7293034; omega⟩ (xs (i + 1).toNatClampNeg) (xs (i + 2).toNatClampNeg) (xs (i + 3).toNatClampNeg) (fun r2 q2 w2 H locs hx2 hM2 hP hD hS => ?_)
  have hP := pc_ hP
  have hD := dc_ hD
  have hG2 : GI ct ad ag o q2 w1 := GI_kq hG1 hx2
  refine lv_istore (lv' := [(6, .int r2), (5, .int r), (0, .ref b), (1, .ref ag), (2, .ref am), (3, .ref qo), (4, .int i)]) hx hb dL_law_950 hl (by decide) rfl (fun ls hl => ?_)
  refine lv_goto (tgt := 1483) hx hb dL_law_952 (by decide) ?_
  exact W.widen (by show cells + 5 + 0 ≤ cells + 5; omega) (by show slots + 30 + 0 ≤ slots + 30; omega) (K o q2 w1 w2 fo1 H locs ls hG2 hM2 hP hD hS (lv_sub hl [2, 3, 4, 5, 6] rfl))
theorem lc_19 (F : LF p l s m c b L xs D ct ad sw sad wa A) (h0 : 0 ≤ i.toInt) (h1 : i.toInt + 6 ≤ (L : Int)) (hL : L ≤ 3072) (hc : cells + 5 ≤ 601024 ∧ slots + 30 ≤ 7293034) (K : LK p l e s m below meth c b ag am qo D ct ad sad A Q i (cells + 5) (slots + 30)) (hG : GI ct ad ag o q wg) (hM : MI ct sad am o q (fun _ => True) wm) (hP : va_P D vwCl ((wg ++ [oc ct qo fo]) ++ wm) H) (hD : va_D A ((wg ++ [oc ct qo fo]) ++ wm)) (hS : va_S A s.heap H locs) (hl : lv_has ls 7 (lvL b ag am qo i)) : W p l e room_1 s m #[Value.ref b] below meth c H locs cells slots Q (F0 m 955 ls []) := by
  obtain ⟨hx, hb, hml, hown, hts, hK, hX, hXm, hst, hA, hXs, hbl, hbA⟩ := F
  have hl : lv_has ls 7 [(0, .ref b), (1, .ref ag), (2, .ref am), (3, .ref qo), (4, .int i)] := hl
  refine lv_aload_n hx hb dL_law_955 rfl (lv_at hl 1 rfl) ?_
  refine lv_aload_n hx hb dL_law_956 rfl (lv_at hl 0 rfl) ?_
  refine lv_iload hx hb dL_law_957 (lv_at hl 4 rfl) ?_
  refine lv_iconst (v := 1) hx hb dL_law_959 (by decide) ?_
  refine lv_iadd hx hb dL_law_960 ?_
  refine va_sld hx hb hXs hbl hbA hS (vin_law h0 h1 hL (by decide)) dL_law_961 ?_
  refine lv_aload_n hx hb dL_law_962 rfl (lv_at hl 3 rfl) ?_
  refine kHS (rest := []) (X := wg ++ [oc ct qo fo]) (pl := wm) ⟨hx, hb, hml, hown, hts⟩ (w_seats l hst D ct ad sw wa ag qo H.size o q wg fo (xs (i + 1).toNatClampNeg) hG) (vx_cwSW 3 hts kw_W_seats rfl rfl rfl (by decide +kernel) ⟨(Nat.le_of_ble_eq_true rfl), (Nat.le_of_ble_eq_true rfl)⟩) (EL_ok ad sw wa) hX hK hP hD hS hA rfl hl.1 rfl (Nat.le_of_ble_eq_true rfl) dL_law_963 ⟨by show cells + 5 ≤ 601024; omega, by show slots + 30 ≤ 7293034; omega⟩ (fun r u H locs hr hP hD hS => ?_)
  obtain ⟨w1, fo1, o1⟩ := u
  have hG1 : GI ct ad ag o q w1 := by
    have h := hr.1
    have e : o1 = o := hr.2
    rw [← e]
    exact h
  have hP : va_P D vwCl ((w1 ++ [oc ct qo fo1]) ++ wm) H := hP
  have hD : va_D A ((w1 ++ [oc ct qo fo1]) ++ wm) := hD
  refine lv_istore (lv' := [(5, .int r), (0, .ref b), (1, .ref ag), (2, .ref am), (3, .ref qo), (4, .int i)]) hx hb dL_law_966 hl (by decide) rfl (fun ls hl => ?_)
  refine lv_aload_n hx hb dL_law_968 rfl (lv_at hl 3 rfl) ?_
  refine lv_aload_n hx hb dL_law_969 rfl (lv_at hl 1 rfl) ?_
  refine lv_iload hx hb dL_law_970 (lv_at hl 5 rfl) ?_
  refine lv_iconst (v := 1) hx hb dL_law_972 (by decide) ?_
  refine lv_iadd hx hb dL_law_973 ?_
  refine va_sld hx hb hXs hbl hbA hS (vin_law h0 h1 hL (by decide)) dL_law_974 ?_
  refine sM_seats (rest := []) (wx := w1 ++ [oc ct qo fo1]) ⟨hx, hb, hml, hown, hts⟩ (cwV 1 hts kw_M_seats rfl rfl rfl (by decide +kernel) ⟨(Nat.le_of_ble_eq_true rfl), (Nat.le_of_ble_eq_true rfl)⟩) hM hK (pc_ hP) (dc_ hD) hS hA hl.1 (Nat.le_of_ble_eq_true rfl) dL_law_975 ⟨by show cells + 5 + 0 ≤ 601024; omega, by show slots + 30 + 0 ≤ 7293034; omega⟩ (xs (i + 1).toNatClampNeg) (fun r2 q2 w2 H locs hx2 hM2 hP hD hS => ?_)
  have hP := pc_ hP
  have hD := dc_ hD
  have hG2 : GI ct ad ag o q2 w1 := GI_kq hG1 hx2
  refine lv_istore (lv' := [(6, .int r2), (5, .int r), (0, .ref b), (1, .ref ag), (2, .ref am), (3, .ref qo), (4, .int i)]) hx hb dL_law_978 hl (by decide) rfl (fun ls hl => ?_)
  refine lv_goto (tgt := 1483) hx hb dL_law_980 (by decide) ?_
  exact W.widen (by show cells + 5 + 0 ≤ cells + 5; omega) (by show slots + 30 + 0 ≤ slots + 30; omega) (K o q2 w1 w2 fo1 H locs ls hG2 hM2 hP hD hS (lv_sub hl [2, 3, 4, 5, 6] rfl))
theorem lc_20 (F : LF p l s m c b L xs D ct ad sw sad wa A) (h0 : 0 ≤ i.toInt) (h1 : i.toInt + 6 ≤ (L : Int)) (hL : L ≤ 3072) (hc : cells + 5 ≤ 601024 ∧ slots + 30 ≤ 7293034) (K : LK p l e s m below meth c b ag am qo D ct ad sad A Q i (cells + 5) (slots + 30)) (hG : GI ct ad ag o q wg) (hM : MI ct sad am o q (fun _ => True) wm) (hP : va_P D vwCl ((wg ++ [oc ct qo fo]) ++ wm) H) (hD : va_D A ((wg ++ [oc ct qo fo]) ++ wm)) (hS : va_S A s.heap H locs) (hl : lv_has ls 7 (lvL b ag am qo i)) : W p l e room_1 s m #[Value.ref b] below meth c H locs cells slots Q (F0 m 983 ls []) := by
  obtain ⟨hx, hb, hml, hown, hts, hK, hX, hXm, hst, hA, hXs, hbl, hbA⟩ := F
  have hl : lv_has ls 7 [(0, .ref b), (1, .ref ag), (2, .ref am), (3, .ref qo), (4, .int i)] := hl
  refine lv_aload_n hx hb dL_law_983 rfl (lv_at hl 1 rfl) ?_
  refine lv_aload_n hx hb dL_law_984 rfl (lv_at hl 0 rfl) ?_
  refine lv_iload hx hb dL_law_985 (lv_at hl 4 rfl) ?_
  refine lv_iconst (v := 1) hx hb dL_law_987 (by decide) ?_
  refine lv_iadd hx hb dL_law_988 ?_
  refine va_sld hx hb hXs hbl hbA hS (vin_law h0 h1 hL (by decide)) dL_law_989 ?_
  refine lv_aload_n hx hb dL_law_990 rfl (lv_at hl 3 rfl) ?_
  refine kHS (rest := []) (X := wg ++ [oc ct qo fo]) (pl := wm) ⟨hx, hb, hml, hown, hts⟩ (w_turn l hst D ct ad sw wa ag qo H.size o q wg fo (xs (i + 1).toNatClampNeg) hG) (vx_cwSW 3 hts kw_W_turn rfl rfl rfl (by decide +kernel) ⟨(Nat.le_of_ble_eq_true rfl), (Nat.le_of_ble_eq_true rfl)⟩) (EL_ok ad sw wa) hX hK hP hD hS hA rfl hl.1 rfl (Nat.le_of_ble_eq_true rfl) dL_law_991 ⟨by show cells + 5 ≤ 601024; omega, by show slots + 30 ≤ 7293034; omega⟩ (fun r u H locs hr hP hD hS => ?_)
  obtain ⟨w1, fo1, o1⟩ := u
  have hG1 : GI ct ad ag o q w1 := by
    have h := hr.1
    have e : o1 = o := hr.2
    rw [← e]
    exact h
  have hP : va_P D vwCl ((w1 ++ [oc ct qo fo1]) ++ wm) H := hP
  have hD : va_D A ((w1 ++ [oc ct qo fo1]) ++ wm) := hD
  refine lv_istore (lv' := [(5, .int r), (0, .ref b), (1, .ref ag), (2, .ref am), (3, .ref qo), (4, .int i)]) hx hb dL_law_994 hl (by decide) rfl (fun ls hl => ?_)
  refine lv_aload_n hx hb dL_law_996 rfl (lv_at hl 3 rfl) ?_
  refine lv_aload_n hx hb dL_law_997 rfl (lv_at hl 1 rfl) ?_
  refine lv_iload hx hb dL_law_998 (lv_at hl 5 rfl) ?_
  refine lv_iconst (v := 1) hx hb dL_law_1000 (by decide) ?_
  refine lv_iadd hx hb dL_law_1001 ?_
  refine va_sld hx hb hXs hbl hbA hS (vin_law h0 h1 hL (by decide)) dL_law_1002 ?_
  refine sM_turn (rest := []) (wx := w1 ++ [oc ct qo fo1]) ⟨hx, hb, hml, hown, hts⟩ (cwV 1 hts kw_M_turn rfl rfl rfl (by decide +kernel) ⟨(Nat.le_of_ble_eq_true rfl), (Nat.le_of_ble_eq_true rfl)⟩) hM hK (pc_ hP) (dc_ hD) hS hA hl.1 (Nat.le_of_ble_eq_true rfl) dL_law_1003 ⟨by show cells + 5 + 0 ≤ 601024; omega, by show slots + 30 + 0 ≤ 7293034; omega⟩ (xs (i + 1).toNatClampNeg) (fun r2 q2 w2 H locs hx2 hM2 hP hD hS => ?_)
  have hP := pc_ hP
  have hD := dc_ hD
  have hG2 : GI ct ad ag o q2 w1 := GI_kq hG1 hx2
  refine lv_istore (lv' := [(6, .int r2), (5, .int r), (0, .ref b), (1, .ref ag), (2, .ref am), (3, .ref qo), (4, .int i)]) hx hb dL_law_1006 hl (by decide) rfl (fun ls hl => ?_)
  refine lv_goto (tgt := 1483) hx hb dL_law_1008 (by decide) ?_
  exact W.widen (by show cells + 5 + 0 ≤ cells + 5; omega) (by show slots + 30 + 0 ≤ slots + 30; omega) (K o q2 w1 w2 fo1 H locs ls hG2 hM2 hP hD hS (lv_sub hl [2, 3, 4, 5, 6] rfl))
theorem lc_21 (F : LF p l s m c b L xs D ct ad sw sad wa A) (h0 : 0 ≤ i.toInt) (h1 : i.toInt + 6 ≤ (L : Int)) (hL : L ≤ 3072) (hc : cells + 5 ≤ 601024 ∧ slots + 30 ≤ 7293034) (K : LK p l e s m below meth c b ag am qo D ct ad sad A Q i (cells + 5) (slots + 30)) (hG : GI ct ad ag o q wg) (hM : MI ct sad am o q (fun _ => True) wm) (hP : va_P D vwCl ((wg ++ [oc ct qo fo]) ++ wm) H) (hD : va_D A ((wg ++ [oc ct qo fo]) ++ wm)) (hS : va_S A s.heap H locs) (hl : lv_has ls 7 (lvL b ag am qo i)) : W p l e room_1 s m #[Value.ref b] below meth c H locs cells slots Q (F0 m 1011 ls []) := by
  obtain ⟨hx, hb, hml, hown, hts, hK, hX, hXm, hst, hA, hXs, hbl, hbA⟩ := F
  have hl : lv_has ls 7 [(0, .ref b), (1, .ref ag), (2, .ref am), (3, .ref qo), (4, .int i)] := hl
  refine lv_aload_n hx hb dL_law_1011 rfl (lv_at hl 1 rfl) ?_
  refine lv_aload_n hx hb dL_law_1012 rfl (lv_at hl 0 rfl) ?_
  refine lv_iload hx hb dL_law_1013 (lv_at hl 4 rfl) ?_
  refine lv_iconst (v := 1) hx hb dL_law_1015 (by decide) ?_
  refine lv_iadd hx hb dL_law_1016 ?_
  refine va_sld hx hb hXs hbl hbA hS (vin_law h0 h1 hL (by decide)) dL_law_1017 ?_
  refine lv_aload_n hx hb dL_law_1018 rfl (lv_at hl 0 rfl) ?_
  refine lv_iload hx hb dL_law_1019 (lv_at hl 4 rfl) ?_
  refine lv_iconst (v := 2) hx hb dL_law_1021 (by decide) ?_
  refine lv_iadd hx hb dL_law_1022 ?_
  refine va_sld hx hb hXs hbl hbA hS (vin_law h0 h1 hL (by decide)) dL_law_1023 ?_
  refine lv_aload_n hx hb dL_law_1024 rfl (lv_at hl 3 rfl) ?_
  refine kHS (rest := []) (X := wg ++ [oc ct qo fo]) (pl := wm) ⟨hx, hb, hml, hown, hts⟩ (w_lasts l hst D ct ad sw wa ag qo H.size o q wg fo (xs (i + 1).toNatClampNeg) (xs (i + 2).toNatClampNeg) hG) (vx_cwSW 4 hts kw_W_lasts rfl rfl rfl (by decide +kernel) ⟨(Nat.le_of_ble_eq_true rfl), (Nat.le_of_ble_eq_true rfl)⟩) (EL_ok ad sw wa) hX hK hP hD hS hA rfl hl.1 rfl (Nat.le_of_ble_eq_true rfl) dL_law_1025 ⟨by show cells + 5 ≤ 601024; omega, by show slots + 30 ≤ 7293034; omega⟩ (fun r u H locs hr hP hD hS => ?_)
  obtain ⟨w1, fo1, o1⟩ := u
  have hG1 : GI ct ad ag o q w1 := by
    have h := hr.1
    have e : o1 = o := hr.2
    rw [← e]
    exact h
  have hP : va_P D vwCl ((w1 ++ [oc ct qo fo1]) ++ wm) H := hP
  have hD : va_D A ((w1 ++ [oc ct qo fo1]) ++ wm) := hD
  refine lv_istore (lv' := [(5, .int r), (0, .ref b), (1, .ref ag), (2, .ref am), (3, .ref qo), (4, .int i)]) hx hb dL_law_1028 hl (by decide) rfl (fun ls hl => ?_)
  refine lv_aload_n hx hb dL_law_1030 rfl (lv_at hl 3 rfl) ?_
  refine lv_aload_n hx hb dL_law_1031 rfl (lv_at hl 1 rfl) ?_
  refine lv_iload hx hb dL_law_1032 (lv_at hl 5 rfl) ?_
  refine lv_iconst (v := 1) hx hb dL_law_1034 (by decide) ?_
  refine lv_iadd hx hb dL_law_1035 ?_
  refine va_sld hx hb hXs hbl hbA hS (vin_law h0 h1 hL (by decide)) dL_law_1036 ?_
  refine lv_aload_n hx hb dL_law_1037 rfl (lv_at hl 1 rfl) ?_
  refine lv_iload hx hb dL_law_1038 (lv_at hl 5 rfl) ?_
  refine lv_iconst (v := 2) hx hb dL_law_1040 (by decide) ?_
  refine lv_iadd hx hb dL_law_1041 ?_
  refine va_sld hx hb hXs hbl hbA hS (vin_law h0 h1 hL (by decide)) dL_law_1042 ?_
  refine sM_lasts (rest := []) (wx := w1 ++ [oc ct qo fo1]) ⟨hx, hb, hml, hown, hts⟩ (cwV 2 hts kw_M_lasts rfl rfl rfl (by decide +kernel) ⟨(Nat.le_of_ble_eq_true rfl), (Nat.le_of_ble_eq_true rfl)⟩) hM hK (pc_ hP) (dc_ hD) hS hA hl.1 (Nat.le_of_ble_eq_true rfl) dL_law_1043 ⟨by show cells + 5 + 0 ≤ 601024; omega, by show slots + 30 + 0 ≤ 7293034; omega⟩ (xs (i + 1).toNatClampNeg) (xs (i + 2).toNatClampNeg) (fun r2 q2 w2 H locs hx2 hM2 hP hD hS => ?_)
  have hP := pc_ hP
  have hD := dc_ hD
  have hG2 : GI ct ad ag o q2 w1 := GI_kq hG1 hx2
  refine lv_istore (lv' := [(6, .int r2), (5, .int r), (0, .ref b), (1, .ref ag), (2, .ref am), (3, .ref qo), (4, .int i)]) hx hb dL_law_1046 hl (by decide) rfl (fun ls hl => ?_)
  refine lv_goto (tgt := 1483) hx hb dL_law_1048 (by decide) ?_
  exact W.widen (by show cells + 5 + 0 ≤ cells + 5; omega) (by show slots + 30 + 0 ≤ slots + 30; omega) (K o q2 w1 w2 fo1 H locs ls hG2 hM2 hP hD hS (lv_sub hl [2, 3, 4, 5, 6] rfl))
theorem lc_22 (F : LF p l s m c b L xs D ct ad sw sad wa A) (h0 : 0 ≤ i.toInt) (h1 : i.toInt + 6 ≤ (L : Int)) (hL : L ≤ 3072) (hc : cells + 5 ≤ 601024 ∧ slots + 30 ≤ 7293034) (K : LK p l e s m below meth c b ag am qo D ct ad sad A Q i (cells + 5) (slots + 30)) (hG : GI ct ad ag o q wg) (hM : MI ct sad am o q (fun _ => True) wm) (hP : va_P D vwCl ((wg ++ [oc ct qo fo]) ++ wm) H) (hD : va_D A ((wg ++ [oc ct qo fo]) ++ wm)) (hS : va_S A s.heap H locs) (hl : lv_has ls 7 (lvL b ag am qo i)) : W p l e room_1 s m #[Value.ref b] below meth c H locs cells slots Q (F0 m 1051 ls []) := by
  obtain ⟨hx, hb, hml, hown, hts, hK, hX, hXm, hst, hA, hXs, hbl, hbA⟩ := F
  have hl : lv_has ls 7 [(0, .ref b), (1, .ref ag), (2, .ref am), (3, .ref qo), (4, .int i)] := hl
  refine lv_aload_n hx hb dL_law_1051 rfl (lv_at hl 1 rfl) ?_
  refine lv_aload_n hx hb dL_law_1052 rfl (lv_at hl 0 rfl) ?_
  refine lv_iload hx hb dL_law_1053 (lv_at hl 4 rfl) ?_
  refine lv_iconst (v := 1) hx hb dL_law_1055 (by decide) ?_
  refine lv_iadd hx hb dL_law_1056 ?_
  refine va_sld hx hb hXs hbl hbA hS (vin_law h0 h1 hL (by decide)) dL_law_1057 ?_
  refine lv_aload_n hx hb dL_law_1058 rfl (lv_at hl 0 rfl) ?_
  refine lv_iload hx hb dL_law_1059 (lv_at hl 4 rfl) ?_
  refine lv_iconst (v := 2) hx hb dL_law_1061 (by decide) ?_
  refine lv_iadd hx hb dL_law_1062 ?_
  refine va_sld hx hb hXs hbl hbA hS (vin_law h0 h1 hL (by decide)) dL_law_1063 ?_
  refine lv_aload_n hx hb dL_law_1064 rfl (lv_at hl 0 rfl) ?_
  refine lv_iload hx hb dL_law_1065 (lv_at hl 4 rfl) ?_
  refine lv_iconst (v := 3) hx hb dL_law_1067 (by decide) ?_
  refine lv_iadd hx hb dL_law_1068 ?_
  refine va_sld hx hb hXs hbl hbA hS (vin_law h0 h1 hL (by decide)) dL_law_1069 ?_
  refine lv_aload_n hx hb dL_law_1070 rfl (lv_at hl 3 rfl) ?_
  refine kHS (rest := []) (X := wg ++ [oc ct qo fo]) (pl := wm) ⟨hx, hb, hml, hown, hts⟩ (w_best l hst D ct ad sw wa ag qo H.size o q wg fo (xs (i + 1).toNatClampNeg) (xs (i + 2).toNatClampNeg) (xs (i + 3).toNatClampNeg) hG) (vx_cwSW 5 hts kw_W_best rfl rfl rfl (by decide +kernel) ⟨(Nat.le_of_ble_eq_true rfl), (Nat.le_of_ble_eq_true rfl)⟩) (EL_ok ad sw wa) hX hK hP hD hS hA rfl hl.1 rfl (Nat.le_of_ble_eq_true rfl) dL_law_1071 ⟨by show cells + 5 ≤ 601024; omega, by show slots + 30 ≤ 7293034; omega⟩ (fun r u H locs hr hP hD hS => ?_)
  obtain ⟨w1, fo1, o1⟩ := u
  have hG1 : GI ct ad ag o q w1 := by
    have h := hr.1
    have e : o1 = o := hr.2
    rw [← e]
    exact h
  have hP : va_P D vwCl ((w1 ++ [oc ct qo fo1]) ++ wm) H := hP
  have hD : va_D A ((w1 ++ [oc ct qo fo1]) ++ wm) := hD
  refine lv_istore (lv' := [(5, .int r), (0, .ref b), (1, .ref ag), (2, .ref am), (3, .ref qo), (4, .int i)]) hx hb dL_law_1074 hl (by decide) rfl (fun ls hl => ?_)
  refine lv_aload_n hx hb dL_law_1076 rfl (lv_at hl 3 rfl) ?_
  refine lv_aload_n hx hb dL_law_1077 rfl (lv_at hl 1 rfl) ?_
  refine lv_iload hx hb dL_law_1078 (lv_at hl 5 rfl) ?_
  refine lv_iconst (v := 1) hx hb dL_law_1080 (by decide) ?_
  refine lv_iadd hx hb dL_law_1081 ?_
  refine va_sld hx hb hXs hbl hbA hS (vin_law h0 h1 hL (by decide)) dL_law_1082 ?_
  refine lv_aload_n hx hb dL_law_1083 rfl (lv_at hl 1 rfl) ?_
  refine lv_iload hx hb dL_law_1084 (lv_at hl 5 rfl) ?_
  refine lv_iconst (v := 2) hx hb dL_law_1086 (by decide) ?_
  refine lv_iadd hx hb dL_law_1087 ?_
  refine va_sld hx hb hXs hbl hbA hS (vin_law h0 h1 hL (by decide)) dL_law_1088 ?_
  refine lv_aload_n hx hb dL_law_1089 rfl (lv_at hl 1 rfl) ?_
  refine lv_iload hx hb dL_law_1090 (lv_at hl 5 rfl) ?_
  refine lv_iconst (v := 3) hx hb dL_law_1092 (by decide) ?_
  refine lv_iadd hx hb dL_law_1093 ?_
  refine va_sld hx hb hXs hbl hbA hS (vin_law h0 h1 hL (by decide)) dL_law_1094 ?_
  refine sM_best (rest := []) (wx := w1 ++ [oc ct qo fo1]) ⟨hx, hb, hml, hown, hts⟩ (cwV 3 hts kw_M_best rfl rfl rfl (by decide +kernel) ⟨(Nat.le_of_ble_eq_true rfl), (Nat.le_of_ble_eq_true rfl)⟩) hM hK (pc_ hP) (dc_ hD) hS hA hl.1 (Nat.le_of_ble_eq_true rfl) dL_law_1095 ⟨by show cells + 5 + 0 ≤ 601024; omega, by show slots + 30 + 0 ≤ 7293034; omega⟩ (xs (i + 1).toNatClampNeg) (xs (i + 2).toNatClampNeg) (xs (i + 3).toNatClampNeg) (fun r2 q2 w2 H locs hx2 hM2 hP hD hS => ?_)
  have hP := pc_ hP
  have hD := dc_ hD
  have hG2 : GI ct ad ag o q2 w1 := GI_kq hG1 hx2
  refine lv_istore (lv' := [(6, .int r2), (5, .int r), (0, .ref b), (1, .ref ag), (2, .ref am), (3, .ref qo), (4, .int i)]) hx hb dL_law_1098 hl (by decide) rfl (fun ls hl => ?_)
  refine lv_goto (tgt := 1483) hx hb dL_law_1100 (by decide) ?_
  exact W.widen (by show cells + 5 + 0 ≤ cells + 5; omega) (by show slots + 30 + 0 ≤ slots + 30; omega) (K o q2 w1 w2 fo1 H locs ls hG2 hM2 hP hD hS (lv_sub hl [2, 3, 4, 5, 6] rfl))
theorem lc_23 (F : LF p l s m c b L xs D ct ad sw sad wa A) (h0 : 0 ≤ i.toInt) (h1 : i.toInt + 6 ≤ (L : Int)) (hL : L ≤ 3072) (hc : cells + 5 ≤ 601024 ∧ slots + 30 ≤ 7293034) (K : LK p l e s m below meth c b ag am qo D ct ad sad A Q i (cells + 5) (slots + 30)) (hG : GI ct ad ag o q wg) (hM : MI ct sad am o q (fun _ => True) wm) (hP : va_P D vwCl ((wg ++ [oc ct qo fo]) ++ wm) H) (hD : va_D A ((wg ++ [oc ct qo fo]) ++ wm)) (hS : va_S A s.heap H locs) (hl : lv_has ls 7 (lvL b ag am qo i)) : W p l e room_1 s m #[Value.ref b] below meth c H locs cells slots Q (F0 m 1103 ls []) := by
  obtain ⟨hx, hb, hml, hown, hts, hK, hX, hXm, hst, hA, hXs, hbl, hbA⟩ := F
  have hl : lv_has ls 7 [(0, .ref b), (1, .ref ag), (2, .ref am), (3, .ref qo), (4, .int i)] := hl
  refine lv_aload_n hx hb dL_law_1103 rfl (lv_at hl 1 rfl) ?_
  refine lv_aload_n hx hb dL_law_1104 rfl (lv_at hl 0 rfl) ?_
  refine lv_iload hx hb dL_law_1105 (lv_at hl 4 rfl) ?_
  refine lv_iconst (v := 1) hx hb dL_law_1107 (by decide) ?_
  refine lv_iadd hx hb dL_law_1108 ?_
  refine va_sld hx hb hXs hbl hbA hS (vin_law h0 h1 hL (by decide)) dL_law_1109 ?_
  refine lv_aload_n hx hb dL_law_1110 rfl (lv_at hl 0 rfl) ?_
  refine lv_iload hx hb dL_law_1111 (lv_at hl 4 rfl) ?_
  refine lv_iconst (v := 2) hx hb dL_law_1113 (by decide) ?_
  refine lv_iadd hx hb dL_law_1114 ?_
  refine va_sld hx hb hXs hbl hbA hS (vin_law h0 h1 hL (by decide)) dL_law_1115 ?_
  refine lv_aload_n hx hb dL_law_1116 rfl (lv_at hl 3 rfl) ?_
  refine kHS (rest := []) (X := wg ++ [oc ct qo fo]) (pl := wm) ⟨hx, hb, hml, hown, hts⟩ (w_greatest l hst D ct ad sw wa ag qo H.size o q wg fo (xs (i + 1).toNatClampNeg) (xs (i + 2).toNatClampNeg) hG) (vx_cwSW 4 hts kw_W_greatest rfl rfl rfl (by decide +kernel) ⟨(Nat.le_of_ble_eq_true rfl), (Nat.le_of_ble_eq_true rfl)⟩) (EL_ok ad sw wa) hX hK hP hD hS hA rfl hl.1 rfl (Nat.le_of_ble_eq_true rfl) dL_law_1117 ⟨by show cells + 5 ≤ 601024; omega, by show slots + 30 ≤ 7293034; omega⟩ (fun r u H locs hr hP hD hS => ?_)
  obtain ⟨w1, fo1, o1⟩ := u
  have hG1 : GI ct ad ag o q w1 := by
    have h := hr.1
    have e : o1 = o := hr.2
    rw [← e]
    exact h
  have hP : va_P D vwCl ((w1 ++ [oc ct qo fo1]) ++ wm) H := hP
  have hD : va_D A ((w1 ++ [oc ct qo fo1]) ++ wm) := hD
  refine lv_istore (lv' := [(5, .int r), (0, .ref b), (1, .ref ag), (2, .ref am), (3, .ref qo), (4, .int i)]) hx hb dL_law_1120 hl (by decide) rfl (fun ls hl => ?_)
  refine lv_aload_n hx hb dL_law_1122 rfl (lv_at hl 3 rfl) ?_
  refine lv_aload_n hx hb dL_law_1123 rfl (lv_at hl 1 rfl) ?_
  refine lv_iload hx hb dL_law_1124 (lv_at hl 5 rfl) ?_
  refine lv_iconst (v := 1) hx hb dL_law_1126 (by decide) ?_
  refine lv_iadd hx hb dL_law_1127 ?_
  refine va_sld hx hb hXs hbl hbA hS (vin_law h0 h1 hL (by decide)) dL_law_1128 ?_
  refine lv_aload_n hx hb dL_law_1129 rfl (lv_at hl 1 rfl) ?_
  refine lv_iload hx hb dL_law_1130 (lv_at hl 5 rfl) ?_
  refine lv_iconst (v := 2) hx hb dL_law_1132 (by decide) ?_
  refine lv_iadd hx hb dL_law_1133 ?_
  refine va_sld hx hb hXs hbl hbA hS (vin_law h0 h1 hL (by decide)) dL_law_1134 ?_
  refine sM_greatest (rest := []) (wx := w1 ++ [oc ct qo fo1]) ⟨hx, hb, hml, hown, hts⟩ (cwV 2 hts kw_M_greatest rfl rfl rfl (by decide +kernel) ⟨(Nat.le_of_ble_eq_true rfl), (Nat.le_of_ble_eq_true rfl)⟩) hM hK (pc_ hP) (dc_ hD) hS hA hl.1 (Nat.le_of_ble_eq_true rfl) dL_law_1135 ⟨by show cells + 5 + 0 ≤ 601024; omega, by show slots + 30 + 0 ≤ 7293034; omega⟩ (xs (i + 1).toNatClampNeg) (xs (i + 2).toNatClampNeg) (fun r2 q2 w2 H locs hx2 hM2 hP hD hS => ?_)
  have hP := pc_ hP
  have hD := dc_ hD
  have hG2 : GI ct ad ag o q2 w1 := GI_kq hG1 hx2
  refine lv_istore (lv' := [(6, .int r2), (5, .int r), (0, .ref b), (1, .ref ag), (2, .ref am), (3, .ref qo), (4, .int i)]) hx hb dL_law_1138 hl (by decide) rfl (fun ls hl => ?_)
  refine lv_goto (tgt := 1483) hx hb dL_law_1140 (by decide) ?_
  exact W.widen (by show cells + 5 + 0 ≤ cells + 5; omega) (by show slots + 30 + 0 ≤ slots + 30; omega) (K o q2 w1 w2 fo1 H locs ls hG2 hM2 hP hD hS (lv_sub hl [2, 3, 4, 5, 6] rfl))
end LC
