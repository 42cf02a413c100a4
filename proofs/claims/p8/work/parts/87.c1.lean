section LC
variable {p : Program} {l : Launch} {e : Env} {s : State} {m : MethodId} {below : List Frame} {meth : Method} {c : Code} {b L : Nat} {xs : Nat → Int32} {D : va_G} {ct : Nat → ClassId} {ad sw sad : Nat → Nat} {wa : Nat} {A : Nat → Prop} {Q : State → Prop} {ag am qo : Nat} {i : Int32} {cells slots : Nat} {o : OB} {q : OS} {wg wm : va_W} {fo : Nat → Int64} {H : Heap} {locs : List Loc} {ls : Array Slot}
theorem lc_12 (F : LF p l s m c b L xs D ct ad sw sad wa A) (h0 : 0 ≤ i.toInt) (h1 : i.toInt + 6 ≤ (L : Int)) (hL : L ≤ 3072) (hc : cells + 5 ≤ 601024 ∧ slots + 30 ≤ 7293034) (K : LK p l e s m below meth c b ag am qo D ct ad sad A Q i (cells + 5) (slots + 30)) (hG : GI ct ad ag o q wg) (hM : MI ct sad am o q (fun _ => True) wm) (hP : va_P D vwCl ((wg ++ [oc ct qo fo]) ++ wm) H) (hD : va_D A ((wg ++ [oc ct qo fo]) ++ wm)) (hS : va_S A s.heap H locs) (hl : lv_has ls 7 (lvL b ag am qo i)) : W p l e room_1 s m #[Value.ref b] below meth c H locs cells slots Q (F0 m 616 ls []) := by
  obtain ⟨hx, hb, hml, hown, hts, hK, hX, hXm, hst, hA, hXs, hbl, hbA⟩ := F
  have hl : lv_has ls 7 [(0, .ref b), (1, .ref ag), (2, .ref am), (3, .ref qo), (4, .int i)] := hl
  refine lv_aload_n hx hb dL_law_616 rfl (lv_at hl 1 rfl) ?_
  refine lv_aload_n hx hb dL_law_617 rfl (lv_at hl 0 rfl) ?_
  refine lv_iload hx hb dL_law_618 (lv_at hl 4 rfl) ?_
  refine lv_iconst (v := 1) hx hb dL_law_620 (by decide) ?_
  refine lv_iadd hx hb dL_law_621 ?_
  refine va_sld hx hb hXs hbl hbA hS (vin_law h0 h1 hL (by decide)) dL_law_622 ?_
  refine lv_aload_n hx hb dL_law_623 rfl (lv_at hl 0 rfl) ?_
  refine lv_iload hx hb dL_law_624 (lv_at hl 4 rfl) ?_
  refine lv_iconst (v := 2) hx hb dL_law_626 (by decide) ?_
  refine lv_iadd hx hb dL_law_627 ?_
  refine va_sld hx hb hXs hbl hbA hS (vin_law h0 h1 hL (by decide)) dL_law_628 ?_
  refine lv_aload_n hx hb dL_law_629 rfl (lv_at hl 0 rfl) ?_
  refine lv_iload hx hb dL_law_630 (lv_at hl 4 rfl) ?_
  refine lv_iconst (v := 3) hx hb dL_law_632 (by decide) ?_
  refine lv_iadd hx hb dL_law_633 ?_
  refine va_sld hx hb hXs hbl hbA hS (vin_law h0 h1 hL (by decide)) dL_law_634 ?_
  refine lv_aload_n hx hb dL_law_635 rfl (lv_at hl 3 rfl) ?_
  refine kHS (rest := []) (X := wg ++ [oc ct qo fo]) (pl := wm) ⟨hx, hb, hml, hown, hts⟩ (w_then l hst D ct ad sw wa ag qo H.size o q wg fo (xs (i + 1).toNatClampNeg) (xs (i + 2).toNatClampNeg) (xs (i + 3).toNatClampNeg) hG) (vx_cwSW 5 hts kw_W_then rfl rfl rfl (by decide +kernel) ⟨(Nat.le_of_ble_eq_true rfl), (Nat.le_of_ble_eq_true rfl)⟩) (EL_ok ad sw wa) hX hK hP hD hS hA rfl hl.1 rfl (Nat.le_of_ble_eq_true rfl) dL_law_636 ⟨by show cells + 5 ≤ 601024; omega, by show slots + 30 ≤ 7293034; omega⟩ (fun r u H locs hr hP hD hS => ?_)
  obtain ⟨w1, fo1, o1⟩ := u
  have hG1 : GI ct ad ag o q w1 := by
    have h := hr.1
    have e : o1 = o := hr.2
    rw [← e]
    exact h
  have hP : va_P D vwCl ((w1 ++ [oc ct qo fo1]) ++ wm) H := hP
  have hD : va_D A ((w1 ++ [oc ct qo fo1]) ++ wm) := hD
  refine lv_istore (lv' := [(5, .int r), (0, .ref b), (1, .ref ag), (2, .ref am), (3, .ref qo), (4, .int i)]) hx hb dL_law_639 hl (by decide) rfl (fun ls hl => ?_)
  refine lv_aload_n hx hb dL_law_641 rfl (lv_at hl 3 rfl) ?_
  refine lv_aload_n hx hb dL_law_642 rfl (lv_at hl 1 rfl) ?_
  refine lv_iload hx hb dL_law_643 (lv_at hl 5 rfl) ?_
  refine lv_iconst (v := 1) hx hb dL_law_645 (by decide) ?_
  refine lv_iadd hx hb dL_law_646 ?_
  refine va_sld hx hb hXs hbl hbA hS (vin_law h0 h1 hL (by decide)) dL_law_647 ?_
  refine lv_aload_n hx hb dL_law_648 rfl (lv_at hl 1 rfl) ?_
  refine lv_iload hx hb dL_law_649 (lv_at hl 5 rfl) ?_
  refine lv_iconst (v := 2) hx hb dL_law_651 (by decide) ?_
  refine lv_iadd hx hb dL_law_652 ?_
  refine va_sld hx hb hXs hbl hbA hS (vin_law h0 h1 hL (by decide)) dL_law_653 ?_
  refine lv_aload_n hx hb dL_law_654 rfl (lv_at hl 1 rfl) ?_
  refine lv_iload hx hb dL_law_655 (lv_at hl 5 rfl) ?_
  refine lv_iconst (v := 3) hx hb dL_law_657 (by decide) ?_
  refine lv_iadd hx hb dL_law_658 ?_
  refine va_sld hx hb hXs hbl hbA hS (vin_law h0 h1 hL (by decide)) dL_law_659 ?_
  refine sM_then (rest := []) (wx := w1 ++ [oc ct qo fo1]) ⟨hx, hb, hml, hown, hts⟩ (cwV 3 hts kw_M_then rfl rfl rfl (by decide +kernel) ⟨(Nat.le_of_ble_eq_true rfl), (Nat.le_of_ble_eq_true rfl)⟩) hM hK (pc_ hP) (dc_ hD) hS hA hl.1 (Nat.le_of_ble_eq_true rfl) dL_law_660 ⟨by show cells + 5 + 0 ≤ 601024; omega, by show slots + 30 + 0 ≤ 7293034; omega⟩ (xs (i + 1).toNatClampNeg) (xs (i + 2).toNatClampNeg) (xs (i + 3).toNatClampNeg) (fun r2 q2 w2 H locs hx2 hM2 hP hD hS => ?_)
  have hP := pc_ hP
  have hD := dc_ hD
  have hG2 : GI ct ad ag o q2 w1 := GI_kq hG1 hx2
  refine lv_istore (lv' := [(6, .int r2), (5, .int r), (0, .ref b), (1, .ref ag), (2, .ref am), (3, .ref qo), (4, .int i)]) hx hb dL_law_663 hl (by decide) rfl (fun ls hl => ?_)
  refine lv_goto (tgt := 1448) hx hb dL_law_665 (by decide) ?_
  exact W.widen (by show cells + 5 + 0 ≤ cells + 5; omega) (by show slots + 30 + 0 ≤ slots + 30; omega) (K o q2 w1 w2 fo1 H locs ls hG2 hM2 hP hD hS (lv_sub hl [2, 3, 4, 5, 6] rfl))
theorem lc_13 (F : LF p l s m c b L xs D ct ad sw sad wa A) (h0 : 0 ≤ i.toInt) (h1 : i.toInt + 6 ≤ (L : Int)) (hL : L ≤ 3072) (hc : cells + 5 ≤ 601024 ∧ slots + 30 ≤ 7293034) (K : LK p l e s m below meth c b ag am qo D ct ad sad A Q i (cells + 5) (slots + 30)) (hG : GI ct ad ag o q wg) (hM : MI ct sad am o q (fun _ => True) wm) (hP : va_P D vwCl ((wg ++ [oc ct qo fo]) ++ wm) H) (hD : va_D A ((wg ++ [oc ct qo fo]) ++ wm)) (hS : va_S A s.heap H locs) (hl : lv_has ls 7 (lvL b ag am qo i)) : W p l e room_1 s m #[Value.ref b] below meth c H locs cells slots Q (F0 m 668 ls []) := by
  obtain ⟨hx, hb, hml, hown, hts, hK, hX, hXm, hst, hA, hXs, hbl, hbA⟩ := F
  have hl : lv_has ls 7 [(0, .ref b), (1, .ref ag), (2, .ref am), (3, .ref qo), (4, .int i)] := hl
  refine lv_aload_n hx hb dL_law_668 rfl (lv_at hl 1 rfl) ?_
  refine lv_aload_n hx hb dL_law_669 rfl (lv_at hl 0 rfl) ?_
  refine lv_iload hx hb dL_law_670 (lv_at hl 4 rfl) ?_
  refine lv_iconst (v := 1) hx hb dL_law_672 (by decide) ?_
  refine lv_iadd hx hb dL_law_673 ?_
  refine va_sld hx hb hXs hbl hbA hS (vin_law h0 h1 hL (by decide)) dL_law_674 ?_
  refine lv_aload_n hx hb dL_law_675 rfl (lv_at hl 0 rfl) ?_
  refine lv_iload hx hb dL_law_676 (lv_at hl 4 rfl) ?_
  refine lv_iconst (v := 2) hx hb dL_law_678 (by decide) ?_
  refine lv_iadd hx hb dL_law_679 ?_
  refine va_sld hx hb hXs hbl hbA hS (vin_law h0 h1 hL (by decide)) dL_law_680 ?_
  refine lv_aload_n hx hb dL_law_681 rfl (lv_at hl 0 rfl) ?_
  refine lv_iload hx hb dL_law_682 (lv_at hl 4 rfl) ?_
  refine lv_iconst (v := 3) hx hb dL_law_684 (by decide) ?_
  refine lv_iadd hx hb dL_law_685 ?_
  refine va_sld hx hb hXs hbl hbA hS (vin_law h0 h1 hL (by decide)) dL_law_686 ?_
  refine lv_aload_n hx hb dL_law_687 rfl (lv_at hl 3 rfl) ?_
  refine kHS (rest := []) (X := wg ++ [oc ct qo fo]) (pl := wm) ⟨hx, hb, hml, hown, hts⟩ (w_where l hst D ct ad sw wa ag qo H.size o q wg fo (xs (i + 1).toNatClampNeg) (xs (i + 2).toNatClampNeg) (xs (i + 3).toNatClampNeg) hG) (vx_cwSW 5 hts kw_W_where rfl rfl rfl (by decide +kernel) ⟨(Nat.le_of_ble_eq_true rfl), (Nat.le_of_ble_eq_true rfl)⟩) (EL_ok ad sw wa) hX hK hP hD hS hA rfl hl.1 rfl (Nat.le_of_ble_eq_true rfl) dL_law_688 ⟨by show cells + 5 ≤ 601024; omega, by show slots + 30 ≤ 7293034; omega⟩ (fun r u H locs hr hP hD hS => ?_)
  obtain ⟨w1, fo1, o1⟩ := u
  have hG1 : GI ct ad ag o q w1 := by
    have h := hr.1
    have e : o1 = o := hr.2
    rw [← e]
    exact h
  have hP : va_P D vwCl ((w1 ++ [oc ct qo fo1]) ++ wm) H := hP
  have hD : va_D A ((w1 ++ [oc ct qo fo1]) ++ wm) := hD
  refine lv_istore (lv' := [(5, .int r), (0, .ref b), (1, .ref ag), (2, .ref am), (3, .ref qo), (4, .int i)]) hx hb dL_law_691 hl (by decide) rfl (fun ls hl => ?_)
  refine lv_aload_n hx hb dL_law_693 rfl (lv_at hl 3 rfl) ?_
  refine lv_aload_n hx hb dL_law_694 rfl (lv_at hl 1 rfl) ?_
  refine lv_iload hx hb dL_law_695 (lv_at hl 5 rfl) ?_
  refine lv_iconst (v := 1) hx hb dL_law_697 (by decide) ?_
  refine lv_iadd hx hb dL_law_698 ?_
  refine va_sld hx hb hXs hbl hbA hS (vin_law h0 h1 hL (by decide)) dL_law_699 ?_
  refine lv_aload_n hx hb dL_law_700 rfl (lv_at hl 1 rfl) ?_
  refine lv_iload hx hb dL_law_701 (lv_at hl 5 rfl) ?_
  refine lv_iconst (v := 2) hx hb dL_law_703 (by decide) ?_
  refine lv_iadd hx hb dL_law_704 ?_
  refine va_sld hx hb hXs hbl hbA hS (vin_law h0 h1 hL (by decide)) dL_law_705 ?_
  refine lv_aload_n hx hb dL_law_706 rfl (lv_at hl 1 rfl) ?_
  refine lv_iload hx hb dL_law_707 (lv_at hl 5 rfl) ?_
  refine lv_iconst (v := 3) hx hb dL_law_709 (by decide) ?_
  refine lv_iadd hx hb dL_law_710 ?_
  refine va_sld hx hb hXs hbl hbA hS (vin_law h0 h1 hL (by decide)) dL_law_711 ?_
  refine sM_where (rest := []) (wx := w1 ++ [oc ct qo fo1]) ⟨hx, hb, hml, hown, hts⟩ (cwV 3 hts kw_M_where rfl rfl rfl (by decide +kernel) ⟨(Nat.le_of_ble_eq_true rfl), (Nat.le_of_ble_eq_true rfl)⟩) hM hK (pc_ hP) (dc_ hD) hS hA hl.1 (Nat.le_of_ble_eq_true rfl) dL_law_712 ⟨by show cells + 5 + 0 ≤ 601024; omega, by show slots + 30 + 0 ≤ 7293034; omega⟩ (xs (i + 1).toNatClampNeg) (xs (i + 2).toNatClampNeg) (xs (i + 3).toNatClampNeg) (fun r2 q2 w2 H locs hx2 hM2 hP hD hS => ?_)
  have hP := pc_ hP
  have hD := dc_ hD
  have hG2 : GI ct ad ag o q2 w1 := GI_kq hG1 hx2
  refine lv_istore (lv' := [(6, .int r2), (5, .int r), (0, .ref b), (1, .ref ag), (2, .ref am), (3, .ref qo), (4, .int i)]) hx hb dL_law_715 hl (by decide) rfl (fun ls hl => ?_)
  refine lv_goto (tgt := 1448) hx hb dL_law_717 (by decide) ?_
  exact W.widen (by show cells + 5 + 0 ≤ cells + 5; omega) (by show slots + 30 + 0 ≤ slots + 30; omega) (K o q2 w1 w2 fo1 H locs ls hG2 hM2 hP hD hS (lv_sub hl [2, 3, 4, 5, 6] rfl))
theorem lc_14 (F : LF p l s m c b L xs D ct ad sw sad wa A) (h0 : 0 ≤ i.toInt) (h1 : i.toInt + 6 ≤ (L : Int)) (hL : L ≤ 3072) (hc : cells + 5 ≤ 601024 ∧ slots + 30 ≤ 7293034) (K : LK p l e s m below meth c b ag am qo D ct ad sad A Q i (cells + 5) (slots + 30)) (hG : GI ct ad ag o q wg) (hM : MI ct sad am o q (fun _ => True) wm) (hP : va_P D vwCl ((wg ++ [oc ct qo fo]) ++ wm) H) (hD : va_D A ((wg ++ [oc ct qo fo]) ++ wm)) (hS : va_S A s.heap H locs) (hl : lv_has ls 7 (lvL b ag am qo i)) : W p l e room_1 s m #[Value.ref b] below meth c H locs cells slots Q (F0 m 720 ls []) := by
  obtain ⟨hx, hb, hml, hown, hts, hK, hX, hXm, hst, hA, hXs, hbl, hbA⟩ := F
  have hl : lv_has ls 7 [(0, .ref b), (1, .ref ag), (2, .ref am), (3, .ref qo), (4, .int i)] := hl
  refine lv_aload_n hx hb dL_law_720 rfl (lv_at hl 1 rfl) ?_
  refine lv_aload_n hx hb dL_law_721 rfl (lv_at hl 0 rfl) ?_
  refine lv_iload hx hb dL_law_722 (lv_at hl 4 rfl) ?_
  refine lv_iconst (v := 1) hx hb dL_law_724 (by decide) ?_
  refine lv_iadd hx hb dL_law_725 ?_
  refine va_sld hx hb hXs hbl hbA hS (vin_law h0 h1 hL (by decide)) dL_law_726 ?_
  refine lv_aload_n hx hb dL_law_727 rfl (lv_at hl 3 rfl) ?_
  refine kHS (rest := []) (X := wg ++ [oc ct qo fo]) (pl := wm) ⟨hx, hb, hml, hown, hts⟩ (w_loaf l hst D ct ad sw wa ag qo H.size o q wg fo (xs (i + 1).toNatClampNeg) hG) (vx_cwSW 3 hts kw_W_loaf rfl rfl rfl (by decide +kernel) ⟨(Nat.le_of_ble_eq_true rfl), (Nat.le_of_ble_eq_true rfl)⟩) (EL_ok ad sw wa) hX hK hP hD hS hA rfl hl.1 rfl (Nat.le_of_ble_eq_true rfl) dL_law_728 ⟨by show cells + 5 ≤ 601024; omega, by show slots + 30 ≤ 7293034; omega⟩ (fun r u H locs hr hP hD hS => ?_)
  obtain ⟨w1, fo1, o1⟩ := u
  have hG1 : GI ct ad ag o q w1 := by
    have h := hr.1
    have e : o1 = o := hr.2
    rw [← e]
    exact h
  have hP : va_P D vwCl ((w1 ++ [oc ct qo fo1]) ++ wm) H := hP
  have hD : va_D A ((w1 ++ [oc ct qo fo1]) ++ wm) := hD
  refine lv_istore (lv' := [(5, .int r), (0, .ref b), (1, .ref ag), (2, .ref am), (3, .ref qo), (4, .int i)]) hx hb dL_law_731 hl (by decide) rfl (fun ls hl => ?_)
  refine lv_aload_n hx hb dL_law_733 rfl (lv_at hl 3 rfl) ?_
  refine lv_aload_n hx hb dL_law_734 rfl (lv_at hl 1 rfl) ?_
  refine lv_iload hx hb dL_law_735 (lv_at hl 5 rfl) ?_
  refine lv_iconst (v := 1) hx hb dL_law_737 (by decide) ?_
  refine lv_iadd hx hb dL_law_738 ?_
  refine va_sld hx hb hXs hbl hbA hS (vin_law h0 h1 hL (by decide)) dL_law_739 ?_
  refine sM_loaf (rest := []) (wx := w1 ++ [oc ct qo fo1]) ⟨hx, hb, hml, hown, hts⟩ (cwV 1 hts kw_M_loaf rfl rfl rfl (by decide +kernel) ⟨(Nat.le_of_ble_eq_true rfl), (Nat.le_of_ble_eq_true rfl)⟩) hM hK (pc_ hP) (dc_ hD) hS hA hl.1 (Nat.le_of_ble_eq_true rfl) dL_law_740 ⟨by show cells + 5 + 0 ≤ 601024; omega, by show slots + 30 + 0 ≤ 7293034; omega⟩ (xs (i + 1).toNatClampNeg) (fun r2 q2 w2 H locs hx2 hM2 hP hD hS => ?_)
  have hP := pc_ hP
  have hD := dc_ hD
  have hG2 : GI ct ad ag o q2 w1 := GI_kq hG1 hx2
  refine lv_istore (lv' := [(6, .int r2), (5, .int r), (0, .ref b), (1, .ref ag), (2, .ref am), (3, .ref qo), (4, .int i)]) hx hb dL_law_743 hl (by decide) rfl (fun ls hl => ?_)
  refine lv_goto (tgt := 1448) hx hb dL_law_745 (by decide) ?_
  exact W.widen (by show cells + 5 + 0 ≤ cells + 5; omega) (by show slots + 30 + 0 ≤ slots + 30; omega) (K o q2 w1 w2 fo1 H locs ls hG2 hM2 hP hD hS (lv_sub hl [2, 3, 4, 5, 6] rfl))
theorem lc_15 (F : LF p l s m c b L xs D ct ad sw sad wa A) (h0 : 0 ≤ i.toInt) (h1 : i.toInt + 6 ≤ (L : Int)) (hL : L ≤ 3072) (hc : cells + 5 ≤ 601024 ∧ slots + 30 ≤ 7293034) (K : LK p l e s m below meth c b ag am qo D ct ad sad A Q i (cells + 5) (slots + 30)) (hG : GI ct ad ag o q wg) (hM : MI ct sad am o q (fun _ => True) wm) (hP : va_P D vwCl ((wg ++ [oc ct qo fo]) ++ wm) H) (hD : va_D A ((wg ++ [oc ct qo fo]) ++ wm)) (hS : va_S A s.heap H locs) (hl : lv_has ls 7 (lvL b ag am qo i)) : W p l e room_1 s m #[Value.ref b] below meth c H locs cells slots Q (F0 m 748 ls []) := by
  obtain ⟨hx, hb, hml, hown, hts, hK, hX, hXm, hst, hA, hXs, hbl, hbA⟩ := F
  have hl : lv_has ls 7 [(0, .ref b), (1, .ref ag), (2, .ref am), (3, .ref qo), (4, .int i)] := hl
  refine lv_aload_n hx hb dL_law_748 rfl (lv_at hl 1 rfl) ?_
  refine lv_aload_n hx hb dL_law_749 rfl (lv_at hl 0 rfl) ?_
  refine lv_iload hx hb dL_law_750 (lv_at hl 4 rfl) ?_
  refine lv_iconst (v := 1) hx hb dL_law_752 (by decide) ?_
  refine lv_iadd hx hb dL_law_753 ?_
  refine va_sld hx hb hXs hbl hbA hS (vin_law h0 h1 hL (by decide)) dL_law_754 ?_
  refine lv_aload_n hx hb dL_law_755 rfl (lv_at hl 0 rfl) ?_
  refine lv_iload hx hb dL_law_756 (lv_at hl 4 rfl) ?_
  refine lv_iconst (v := 2) hx hb dL_law_758 (by decide) ?_
  refine lv_iadd hx hb dL_law_759 ?_
  refine va_sld hx hb hXs hbl hbA hS (vin_law h0 h1 hL (by decide)) dL_law_760 ?_
  refine lv_aload_n hx hb dL_law_761 rfl (lv_at hl 3 rfl) ?_
  refine kHS (rest := []) (X := wg ++ [oc ct qo fo]) (pl := wm) ⟨hx, hb, hml, hown, hts⟩ (w_later l hst D ct ad sw wa ag qo H.size o q wg fo (xs (i + 1).toNatClampNeg) (xs (i + 2).toNatClampNeg) hG) (vx_cwSW 4 hts kw_W_later rfl rfl rfl (by decide +kernel) ⟨(Nat.le_of_ble_eq_true rfl), (Nat.le_of_ble_eq_true rfl)⟩) (EL_ok ad sw wa) hX hK hP hD hS hA rfl hl.1 rfl (Nat.le_of_ble_eq_true rfl) dL_law_762 ⟨by show cells + 5 ≤ 601024; omega, by show slots + 30 ≤ 7293034; omega⟩ (fun r u H locs hr hP hD hS => ?_)
  obtain ⟨w1, fo1, o1⟩ := u
  have hG1 : GI ct ad ag o q w1 := by
    have h := hr.1
    have e : o1 = o := hr.2
    rw [← e]
    exact h
  have hP : va_P D vwCl ((w1 ++ [oc ct qo fo1]) ++ wm) H := hP
  have hD : va_D A ((w1 ++ [oc ct qo fo1]) ++ wm) := hD
  refine lv_istore (lv' := [(5, .int r), (0, .ref b), (1, .ref ag), (2, .ref am), (3, .ref qo), (4, .int i)]) hx hb dL_law_765 hl (by decide) rfl (fun ls hl => ?_)
  refine lv_aload_n hx hb dL_law_767 rfl (lv_at hl 3 rfl) ?_
  refine lv_aload_n hx hb dL_law_768 rfl (lv_at hl 1 rfl) ?_
  refine lv_iload hx hb dL_law_769 (lv_at hl 5 rfl) ?_
  refine lv_iconst (v := 1) hx hb dL_law_771 (by decide) ?_
  refine lv_iadd hx hb dL_law_772 ?_
  refine va_sld hx hb hXs hbl hbA hS (vin_law h0 h1 hL (by decide)) dL_law_773 ?_
  refine lv_aload_n hx hb dL_law_774 rfl (lv_at hl 1 rfl) ?_
  refine lv_iload hx hb dL_law_775 (lv_at hl 5 rfl) ?_
  refine lv_iconst (v := 2) hx hb dL_law_777 (by decide) ?_
  refine lv_iadd hx hb dL_law_778 ?_
  refine va_sld hx hb hXs hbl hbA hS (vin_law h0 h1 hL (by decide)) dL_law_779 ?_
  refine sM_later (rest := []) (wx := w1 ++ [oc ct qo fo1]) ⟨hx, hb, hml, hown, hts⟩ (cwV 2 hts kw_M_later rfl rfl rfl (by decide +kernel) ⟨(Nat.le_of_ble_eq_true rfl), (Nat.le_of_ble_eq_true rfl)⟩) hM hK (pc_ hP) (dc_ hD) hS hA hl.1 (Nat.le_of_ble_eq_true rfl) dL_law_780 ⟨by show cells + 5 + 0 ≤ 601024; omega, by show slots + 30 + 0 ≤ 7293034; omega⟩ (xs (i + 1).toNatClampNeg) (xs (i + 2).toNatClampNeg) (fun r2 q2 w2 H locs hx2 hM2 hP hD hS => ?_)
  have hP := pc_ hP
  have hD := dc_ hD
  have hG2 : GI ct ad ag o q2 w1 := GI_kq hG1 hx2
  refine lv_istore (lv' := [(6, .int r2), (5, .int r), (0, .ref b), (1, .ref ag), (2, .ref am), (3, .ref qo), (4, .int i)]) hx hb dL_law_783 hl (by decide) rfl (fun ls hl => ?_)
  refine lv_goto (tgt := 1448) hx hb dL_law_785 (by decide) ?_
  exact W.widen (by show cells + 5 + 0 ≤ cells + 5; omega) (by show slots + 30 + 0 ≤ slots + 30; omega) (K o q2 w1 w2 fo1 H locs ls hG2 hM2 hP hD hS (lv_sub hl [2, 3, 4, 5, 6] rfl))
theorem lc_16 (F : LF p l s m c b L xs D ct ad sw sad wa A) (h0 : 0 ≤ i.toInt) (h1 : i.toInt + 6 ≤ (L : Int)) (hL : L ≤ 3072) (hc : cells + 5 ≤ 601024 ∧ slots + 30 ≤ 7293034) (K : LK p l e s m below meth c b ag am qo D ct ad sad A Q i (cells + 5) (slots + 30)) (hG : GI ct ad ag o q wg) (hM : MI ct sad am o q (fun _ => True) wm) (hP : va_P D vwCl ((wg ++ [oc ct qo fo]) ++ wm) H) (hD : va_D A ((wg ++ [oc ct qo fo]) ++ wm)) (hS : va_S A s.heap H locs) (hl : lv_has ls 7 (lvL b ag am qo i)) : W p l e room_1 s m #[Value.ref b] below meth c H locs cells slots Q (F0 m 788 ls []) := by
  obtain ⟨hx, hb, hml, hown, hts, hK, hX, hXm, hst, hA, hXs, hbl, hbA⟩ := F
  have hl : lv_has ls 7 [(0, .ref b), (1, .ref ag), (2, .ref am), (3, .ref qo), (4, .int i)] := hl
  refine lv_aload_n hx hb dL_law_788 rfl (lv_at hl 1 rfl) ?_
  refine lv_aload_n hx hb dL_law_789 rfl (lv_at hl 0 rfl) ?_
  refine lv_iload hx hb dL_law_790 (lv_at hl 4 rfl) ?_
  refine lv_iconst (v := 1) hx hb dL_law_792 (by decide) ?_
  refine lv_iadd hx hb dL_law_793 ?_
  refine va_sld hx hb hXs hbl hbA hS (vin_law h0 h1 hL (by decide)) dL_law_794 ?_
  refine lv_aload_n hx hb dL_law_795 rfl (lv_at hl 0 rfl) ?_
  refine lv_iload hx hb dL_law_796 (lv_at hl 4 rfl) ?_
  refine lv_iconst (v := 2) hx hb dL_law_798 (by decide) ?_
  refine lv_iadd hx hb dL_law_799 ?_
  refine va_sld hx hb hXs hbl hbA hS (vin_law h0 h1 hL (by decide)) dL_law_800 ?_
  refine lv_aload_n hx hb dL_law_801 rfl (lv_at hl 3 rfl) ?_
  refine kHS (rest := []) (X := wg ++ [oc ct qo fo]) (pl := wm) ⟨hx, hb, hml, hown, hts⟩ (w_sat l hst D ct ad sw wa ag qo H.size o q wg fo (xs (i + 1).toNatClampNeg) (xs (i + 2).toNatClampNeg) hG) (vx_cwSW 4 hts kw_W_sat rfl rfl rfl (by decide +kernel) ⟨(Nat.le_of_ble_eq_true rfl), (Nat.le_of_ble_eq_true rfl)⟩) (EL_ok ad sw wa) hX hK hP hD hS hA rfl hl.1 rfl (Nat.le_of_ble_eq_true rfl) dL_law_802 ⟨by show cells + 5 ≤ 601024; omega, by show slots + 30 ≤ 7293034; omega⟩ (fun r u H locs hr hP hD hS => ?_)
  obtain ⟨w1, fo1, o1⟩ := u
  have hG1 : GI ct ad ag o q w1 := by
    have h := hr.1
    have e : o1 = o := hr.2
    rw [← e]
    exact h
  have hP : va_P D vwCl ((w1 ++ [oc ct qo fo1]) ++ wm) H := hP
  have hD : va_D A ((w1 ++ [oc ct qo fo1]) ++ wm) := hD
  refine lv_istore (lv' := [(5, .int r), (0, .ref b), (1, .ref ag), (2, .ref am), (3, .ref qo), (4, .int i)]) hx hb dL_law_805 hl (by decide) rfl (fun ls hl => ?_)
  refine lv_aload_n hx hb dL_law_807 rfl (lv_at hl 3 rfl) ?_
  refine lv_aload_n hx hb dL_law_808 rfl (lv_at hl 1 rfl) ?_
  refine lv_iload hx hb dL_law_809 (lv_at hl 5 rfl) ?_
  refine lv_iconst (v := 1) hx hb dL_law_811 (by decide) ?_
  refine lv_iadd hx hb dL_law_812 ?_
  refine va_sld hx hb hXs hbl hbA hS (vin_law h0 h1 hL (by decide)) dL_law_813 ?_
  refine lv_aload_n hx hb dL_law_814 rfl (lv_at hl 1 rfl) ?_
  refine lv_iload hx hb dL_law_815 (lv_at hl 5 rfl) ?_
  refine lv_iconst (v := 2) hx hb dL_law_817 (by decide) ?_
  refine lv_iadd hx hb dL_law_818 ?_
  refine va_sld hx hb hXs hbl hbA hS (vin_law h0 h1 hL (by decide)) dL_law_819 ?_
  refine sM_sat (rest := []) (wx := w1 ++ [oc ct qo fo1]) ⟨hx, hb, hml, hown, hts⟩ (cwV 2 hts kw_M_sat rfl rfl rfl (by decide +kernel) ⟨(Nat.le_of_ble_eq_true rfl), (Nat.le_of_ble_eq_true rfl)⟩) hM hK (pc_ hP) (dc_ hD) hS hA hl.1 (Nat.le_of_ble_eq_true rfl) dL_law_820 ⟨by show cells + 5 + 0 ≤ 601024; omega, by show slots + 30 + 0 ≤ 7293034; omega⟩ (xs (i + 1).toNatClampNeg) (xs (i + 2).toNatClampNeg) (fun r2 q2 w2 H locs hx2 hM2 hP hD hS => ?_)
  have hP := pc_ hP
  have hD := dc_ hD
  have hG2 : GI ct ad ag o q2 w1 := GI_kq hG1 hx2
  refine lv_istore (lv' := [(6, .int r2), (5, .int r), (0, .ref b), (1, .ref ag), (2, .ref am), (3, .ref qo), (4, .int i)]) hx hb dL_law_823 hl (by decide) rfl (fun ls hl => ?_)
  refine lv_goto (tgt := 1448) hx hb dL_law_825 (by decide) ?_
  exact W.widen (by show cells + 5 + 0 ≤ cells + 5; omega) (by show slots + 30 + 0 ≤ slots + 30; omega) (K o q2 w1 w2 fo1 H locs ls hG2 hM2 hP hD hS (lv_sub hl [2, 3, 4, 5, 6] rfl))
theorem lc_17 (F : LF p l s m c b L xs D ct ad sw sad wa A) (h0 : 0 ≤ i.toInt) (h1 : i.toInt + 6 ≤ (L : Int)) (hL : L ≤ 3072) (hc : cells + 5 ≤ 601024 ∧ slots + 30 ≤ 7293034) (K : LK p l e s m below meth c b ag am qo D ct ad sad A Q i (cells + 5) (slots + 30)) (hG : GI ct ad ag o q wg) (hM : MI ct sad am o q (fun _ => True) wm) (hP : va_P D vwCl ((wg ++ [oc ct qo fo]) ++ wm) H) (hD : va_D A ((wg ++ [oc ct qo fo]) ++ wm)) (hS : va_S A s.heap H locs) (hl : lv_has ls 7 (lvL b ag am qo i)) : W p l e room_1 s m #[Value.ref b] below meth c H locs cells slots Q (F0 m 828 ls []) := by
  obtain ⟨hx, hb, hml, hown, hts, hK, hX, hXm, hst, hA, hXs, hbl, hbA⟩ := F
  have hl : lv_has ls 7 [(0, .ref b), (1, .ref ag), (2, .ref am), (3, .ref qo), (4, .int i)] := hl
  refine lv_aload_n hx hb dL_law_828 rfl (lv_at hl 1 rfl) ?_
  refine lv_aload_n hx hb dL_law_829 rfl (lv_at hl 0 rfl) ?_
  refine lv_iload hx hb dL_law_830 (lv_at hl 4 rfl) ?_
  refine lv_iconst (v := 1) hx hb dL_law_832 (by decide) ?_
  refine lv_iadd hx hb dL_law_833 ?_
  refine va_sld hx hb hXs hbl hbA hS (vin_law h0 h1 hL (by decide)) dL_law_834 ?_
  refine lv_aload_n hx hb dL_law_835 rfl (lv_at hl 0 rfl) ?_
  refine lv_iload hx hb dL_law_836 (lv_at hl 4 rfl) ?_
  refine lv_iconst (v := 2) hx hb dL_law_838 (by decide) ?_
  refine lv_iadd hx hb dL_law_839 ?_
  refine va_sld hx hb hXs hbl hbA hS (vin_law h0 h1 hL (by decide)) dL_law_840 ?_
  refine lv_aload_n hx hb dL_law_841 rfl (lv_at hl 3 rfl) ?_
  refine kHS (rest := []) (X := wg ++ [oc ct qo fo]) (pl := wm) ⟨hx, hb, hml, hown, hts⟩ (w_fits l hst D ct ad sw wa ag qo H.size o q wg fo (xs (i + 1).toNatClampNeg) (xs (i + 2).toNatClampNeg) hG) (vx_cwSW 4 hts kw_W_fits rfl rfl rfl (by decide +kernel) ⟨(Nat.le_of_ble_eq_true rfl), (Nat.le_of_ble_eq_true rfl)⟩) (EL_ok ad sw wa) hX hK hP hD hS hA rfl hl.1 rfl (Nat.le_of_ble_eq_true rfl) dL_law_842 ⟨by show cells + 5 ≤ 601024; omega, by show slots + 30 ≤ 7293034; omega⟩ (fun r u H locs hr hP hD hS => ?_)
  obtain ⟨w1, fo1, o1⟩ := u
  have hG1 : GI ct ad ag o q w1 := by
    have h := hr.1
    have e : o1 = o := hr.2
    rw [← e]
    exact h
  have hP : va_P D vwCl ((w1 ++ [oc ct qo fo1]) ++ wm) H := hP
  have hD : va_D A ((w1 ++ [oc ct qo fo1]) ++ wm) := hD
  refine lv_istore (lv' := [(5, .int r), (0, .ref b), (1, .ref ag), (2, .ref am), (3, .ref qo), (4, .int i)]) hx hb dL_law_845 hl (by decide) rfl (fun ls hl => ?_)
  refine lv_aload_n hx hb dL_law_847 rfl (lv_at hl 3 rfl) ?_
  refine lv_aload_n hx hb dL_law_848 rfl (lv_at hl 1 rfl) ?_
  refine lv_iload hx hb dL_law_849 (lv_at hl 5 rfl) ?_
  refine lv_iconst (v := 1) hx hb dL_law_851 (by decide) ?_
  refine lv_iadd hx hb dL_law_852 ?_
  refine va_sld hx hb hXs hbl hbA hS (vin_law h0 h1 hL (by decide)) dL_law_853 ?_
  refine lv_aload_n hx hb dL_law_854 rfl (lv_at hl 1 rfl) ?_
  refine lv_iload hx hb dL_law_855 (lv_at hl 5 rfl) ?_
  refine lv_iconst (v := 2) hx hb dL_law_857 (by decide) ?_
  refine lv_iadd hx hb dL_law_858 ?_
  refine va_sld hx hb hXs hbl hbA hS (vin_law h0 h1 hL (by decide)) dL_law_859 ?_
  refine sM_fits (rest := []) (wx := w1 ++ [oc ct qo fo1]) ⟨hx, hb, hml, hown, hts⟩ (cwV 2 hts kw_M_fits rfl rfl rfl (by decide +kernel) ⟨(Nat.le_of_ble_eq_true rfl), (Nat.le_of_ble_eq_true rfl)⟩) hM hK (pc_ hP) (dc_ hD) hS hA hl.1 (Nat.le_of_ble_eq_true rfl) dL_law_860 ⟨by show cells + 5 + 0 ≤ 601024; omega, by show slots + 30 + 0 ≤ 7293034; omega⟩ (xs (i + 1).toNatClampNeg) (xs (i + 2).toNatClampNeg) (fun r2 q2 w2 H locs hx2 hM2 hP hD hS => ?_)
  have hP := pc_ hP
  have hD := dc_ hD
  have hG2 : GI ct ad ag o q2 w1 := GI_kq hG1 hx2
  refine lv_istore (lv' := [(6, .int r2), (5, .int r), (0, .ref b), (1, .ref ag), (2, .ref am), (3, .ref qo), (4, .int i)]) hx hb dL_law_863 hl (by decide) rfl (fun ls hl => ?_)
  refine lv_goto (tgt := 1448) hx hb dL_law_865 (by decide) ?_
  exact W.widen (by show cells + 5 + 0 ≤ cells + 5; omega) (by show slots + 30 + 0 ≤ slots + 30; omega) (K o q2 w1 w2 fo1 H locs ls hG2 hM2 hP hD hS (lv_sub hl [2, 3, 4, 5, 6] rfl))
theorem lc_18 (F : LF p l s m c b L xs D ct ad sw sad wa A) (h0 : 0 ≤ i.toInt) (h1 : i.toInt + 6 ≤ (L : Int)) (hL : L ≤ 3072) (hc : cells + 5 ≤ 601024 ∧ slots + 30 ≤ 7293034) (K : LK p l e s m below meth c b ag am qo D ct ad sad A Q i (cells + 5) (slots + 30)) (hG : GI ct ad ag o q wg) (hM : MI ct sad am o q (fun _ => True) wm) (hP : va_P D vwCl ((wg ++ [oc ct qo fo]) ++ wm) H) (hD : va_D A ((wg ++ [oc ct qo fo]) ++ wm)) (hS : va_S A s.heap H locs) (hl : lv_has ls 7 (lvL b ag am qo i)) : W p l e room_1 s m #[Value.ref b] below meth c H locs cells slots Q (F0 m 868 ls []) := by
  obtain ⟨hx, hb, hml, hown, hts, hK, hX, hXm, hst, hA, hXs, hbl, hbA⟩ := F
  have hl : lv_has ls 7 [(0, .ref b), (1, .ref ag), (2, .ref am), (3, .ref qo), (4, .int i)] := hl
  refine lv_aload_n hx hb dL_law_868 rfl (lv_at hl 1 rfl) ?_
  refine lv_aload_n hx hb dL_law_869 rfl (lv_at hl 0 rfl) ?_
  refine lv_iload hx hb dL_law_870 (lv_at hl 4 rfl) ?_
  refine lv_iconst (v := 1) hx hb dL_law_872 (by decide) ?_
  refine lv_iadd hx hb dL_law_873 ?_
  refine va_sld hx hb hXs hbl hbA hS (vin_law h0 h1 hL (by decide)) dL_law_874 ?_
  refine lv_aload_n hx hb dL_law_875 rfl (lv_at hl 0 rfl) ?_
  refine lv_iload hx hb dL_law_876 (lv_at hl 4 rfl) ?_
  refine lv_iconst (v := 2) hx hb dL_law_878 (by decide) ?_
  refine lv_iadd hx hb dL_law_879 ?_
  refine va_sld hx hb hXs hbl hbA hS (vin_law h0 h1 hL (by decide)) dL_law_880 ?_
  refine lv_aload_n hx hb dL_law_881 rfl (lv_at hl 0 rfl) ?_
  refine lv_iload hx hb dL_law_882 (lv_at hl 4 rfl) ?_
  refine lv_iconst (v := 3) hx hb dL_law_884 (by decide) ?_
  refine lv_iadd hx hb dL_law_885 ?_
  refine va_sld hx hb hXs hbl hbA hS (vin_law h0 h1 hL (by decide)) dL_law_886 ?_
  refine lv_aload_n hx hb dL_law_887 rfl (lv_at hl 3 rfl) ?_
  refine kHS (rest := []) (X := wg ++ [oc ct qo fo]) (pl := wm) ⟨hx, hb, hml, hown, hts⟩ (w_unlike l hst D ct ad sw wa ag qo H.size o q wg fo (xs (i + 1).toNatClampNeg) (xs (i + 2).toNatClampNeg) (xs (i + 3).toNatClampNeg) hG) (vx_cwSW 5 hts kw_W_unlike rfl rfl rfl (by decide +kernel) ⟨(Nat.le_of_ble_eq_true rfl), (Nat.le_of_ble_eq_true rfl)⟩) (EL_ok ad sw wa) hX hK hP hD hS hA rfl hl.1 rfl (Nat.le_of_ble_eq_true rfl) dL_law_888 ⟨by show cells + 5 ≤ 601024; omega, by show slots + 30 ≤ 7293034; omega⟩ (fun r u H locs hr hP hD hS => ?_)
  obtain ⟨w1, fo1, o1⟩ := u
  have hG1 : GI ct ad ag o q w1 := by
    have h := hr.1
    have e : o1 = o := hr.2
    rw [← e]
    exact h
  have hP : va_P D vwCl ((w1 ++ [oc ct qo fo1]) ++ wm) H := hP
  have hD : va_D A ((w1 ++ [oc ct qo fo1]) ++ wm) := hD
  refine lv_istore (lv' := [(5, .int r), (0, .ref b), (1, .ref ag), (2, .ref am), (3, .ref qo), (4, .int i)]) hx hb dL_law_891 hl (by decide) rfl (fun ls hl => ?_)
  refine lv_aload_n hx hb dL_law_893 rfl (lv_at hl 3 rfl) ?_
  refine lv_aload_n hx hb dL_law_894 rfl (lv_at hl 1 rfl) ?_
  refine lv_iload hx hb dL_law_895 (lv_at hl 5 rfl) ?_
  refine lv_iconst (v := 1) hx hb dL_law_897 (by decide) ?_
  refine lv_iadd hx hb dL_law_898 ?_
  refine va_sld hx hb hXs hbl hbA hS (vin_law h0 h1 hL (by decide)) dL_law_899 ?_
  refine lv_aload_n hx hb dL_law_900 rfl (lv_at hl 1 rfl) ?_
  refine lv_iload hx hb dL_law_901 (lv_at hl 5 rfl) ?_
  refine lv_iconst (v := 2) hx hb dL_law_903 (by decide) ?_
  refine lv_iadd hx hb dL_law_904 ?_
  refine va_sld hx hb hXs hbl hbA hS (vin_law h0 h1 hL (by decide)) dL_law_905 ?_
  refine lv_aload_n hx hb dL_law_906 rfl (lv_at hl 1 rfl) ?_
  refine lv_iload hx hb dL_law_907 (lv_at hl 5 rfl) ?_
  refine lv_iconst (v := 3) hx hb dL_law_909 (by decide) ?_
  refine lv_iadd hx hb dL_law_910 ?_
  refine va_sld hx hb hXs hbl hbA hS (vin_law h0 h1 hL (by decide)) dL_law_911 ?_
  refine sM_unlike (rest := []) (wx := w1 ++ [oc ct qo fo1]) ⟨hx, hb, hml, hown, hts⟩ (cwV 3 hts kw_M_unlike rfl rfl rfl (by decide +kernel) ⟨(Nat.le_of_ble_eq_true rfl), (Nat.le_of_ble_eq_true rfl)⟩) hM hK (pc_ hP) (dc_ hD) hS hA hl.1 (Nat.le_of_ble_eq_true rfl) dL_law_912 ⟨by show cells + 5 + 0 ≤ 601024; omega, by show slots + 30 + 0 ≤ 7293034; omega⟩ (xs (i + 1).toNatClampNeg) (xs (i + 2).toNatClampNeg) (xs (i + 3).toNatClampNeg) (fun r2 q2 w2 H locs hx2 hM2 hP hD hS => ?_)
  have hP := pc_ hP
  have hD := dc_ hD
  have hG2 : GI ct ad ag o q2 w1 := GI_kq hG1 hx2
  refine lv_istore (lv' := [(6, .int r2), (5, .int r), (0, .ref b), (1, .ref ag), (2, .ref am), (3, .ref qo), (4, .int i)]) hx hb dL_law_915 hl (by decide) rfl (fun ls hl => ?_)
  refine lv_goto (tgt := 1448) hx hb dL_law_917 (by decide) ?_
  exact W.widen (by show cells + 5 + 0 ≤ cells + 5; omega) (by show slots + 30 + 0 ≤ slots + 30; omega) (K o q2 w1 w2 fo1 H locs ls hG2 hM2 hP hD hS (lv_sub hl [2, 3, 4, 5, 6] rfl))
theorem lc_19 (F : LF p l s m c b L xs D ct ad sw sad wa A) (h0 : 0 ≤ i.toInt) (h1 : i.toInt + 6 ≤ (L : Int)) (hL : L ≤ 3072) (hc : cells + 5 ≤ 601024 ∧ slots + 30 ≤ 7293034) (K : LK p l e s m below meth c b ag am qo D ct ad sad A Q i (cells + 5) (slots + 30)) (hG : GI ct ad ag o q wg) (hM : MI ct sad am o q (fun _ => True) wm) (hP : va_P D vwCl ((wg ++ [oc ct qo fo]) ++ wm) H) (hD : va_D A ((wg ++ [oc ct qo fo]) ++ wm)) (hS : va_S A s.heap H locs) (hl : lv_has ls 7 (lvL b ag am qo i)) : W p l e room_1 s m #[Value.ref b] below meth c H locs cells slots Q (F0 m 920 ls []) := by
  obtain ⟨hx, hb, hml, hown, hts, hK, hX, hXm, hst, hA, hXs, hbl, hbA⟩ := F
  have hl : lv_has ls 7 [(0, .ref b), (1, .ref ag), (2, .ref am), (3, .ref qo), (4, .int i)] := hl
  refine lv_aload_n hx hb dL_law_920 rfl (lv_at hl 1 rfl) ?_
  refine lv_aload_n hx hb dL_law_921 rfl (lv_at hl 0 rfl) ?_
  refine lv_iload hx hb dL_law_922 (lv_at hl 4 rfl) ?_
  refine lv_iconst (v := 1) hx hb dL_law_924 (by decide) ?_
  refine lv_iadd hx hb dL_law_925 ?_
  refine va_sld hx hb hXs hbl hbA hS (vin_law h0 h1 hL (by decide)) dL_law_926 ?_
  refine lv_aload_n hx hb dL_law_927 rfl (lv_at hl 3 rfl) ?_
  refine kHS (rest := []) (X := wg ++ [oc ct qo fo]) (pl := wm) ⟨hx, hb, hml, hown, hts⟩ (w_seats l hst D ct ad sw wa ag qo H.size o q wg fo (xs (i + 1).toNatClampNeg) hG) (vx_cwSW 3 hts kw_W_seats rfl rfl rfl (by decide +kernel) ⟨(Nat.le_of_ble_eq_true rfl), (Nat.le_of_ble_eq_true rfl)⟩) (EL_ok ad sw wa) hX hK hP hD hS hA rfl hl.1 rfl (Nat.le_of_ble_eq_true rfl) dL_law_928 ⟨by show cells + 5 ≤ 601024; omega, by show slots + 30 ≤ 7293034; omega⟩ (fun r u H locs hr hP hD hS => ?_)
  obtain ⟨w1, fo1, o1⟩ := u
  have hG1 : GI ct ad ag o q w1 := by
    have h := hr.1
    have e : o1 = o := hr.2
    rw [← e]
    exact h
  have hP : va_P D vwCl ((w1 ++ [oc ct qo fo1]) ++ wm) H := hP
  have hD : va_D A ((w1 ++ [oc ct qo fo1]) ++ wm) := hD
  refine lv_istore (lv' := [(5, .int r), (0, .ref b), (1, .ref ag), (2, .ref am), (3, .ref qo), (4, .int i)]) hx hb dL_law_931 hl (by decide) rfl (fun ls hl => ?_)
  refine lv_aload_n hx hb dL_law_933 rfl (lv_at hl 3 rfl) ?_
  refine lv_aload_n hx hb dL_law_934 rfl (lv_at hl 1 rfl) ?_
  refine lv_iload hx hb dL_law_935 (lv_at hl 5 rfl) ?_
  refine lv_iconst (v := 1) hx hb dL_law_937 (by decide) ?_
  refine lv_iadd hx hb dL_law_938 ?_
  refine va_sld hx hb hXs hbl hbA hS (vin_law h0 h1 hL (by decide)) dL_law_939 ?_
  refine sM_seats (rest := []) (wx := w1 ++ [oc ct qo fo1]) ⟨hx, hb, hml, hown, hts⟩ (cwV 1 hts kw_M_seats rfl rfl rfl (by decide +kernel) ⟨(Nat.le_of_ble_eq_true rfl), (Nat.le_of_ble_eq_true rfl)⟩) hM hK (pc_ hP) (dc_ hD) hS hA hl.1 (Nat.le_of_ble_eq_true rfl) dL_law_940 ⟨by show cells + 5 + 0 ≤ 601024; omega, by show slots + 30 + 0 ≤ 7293034; omega⟩ (xs (i + 1).toNatClampNeg) (fun r2 q2 w2 H locs hx2 hM2 hP hD hS => ?_)
  have hP := pc_ hP
  have hD := dc_ hD
  have hG2 : GI ct ad ag o q2 w1 := GI_kq hG1 hx2
  refine lv_istore (lv' := [(6, .int r2), (5, .int r), (0, .ref b), (1, .ref ag), (2, .ref am), (3, .ref qo), (4, .int i)]) hx hb dL_law_943 hl (by decide) rfl (fun ls hl => ?_)
  refine lv_goto (tgt := 1448) hx hb dL_law_945 (by decide) ?_
  exact W.widen (by show cells + 5 + 0 ≤ cells + 5; omega) (by show slots + 30 + 0 ≤ slots + 30; omega) (K o q2 w1 w2 fo1 H locs ls hG2 hM2 hP hD hS (lv_sub hl [2, 3, 4, 5, 6] rfl))
theorem lc_20 (F : LF p l s m c b L xs D ct ad sw sad wa A) (h0 : 0 ≤ i.toInt) (h1 : i.toInt + 6 ≤ (L : Int)) (hL : L ≤ 3072) (hc : cells + 5 ≤ 601024 ∧ slots + 30 ≤ 7293034) (K : LK p l e s m below meth c b ag am qo D ct ad sad A Q i (cells + 5) (slots + 30)) (hG : GI ct ad ag o q wg) (hM : MI ct sad am o q (fun _ => True) wm) (hP : va_P D vwCl ((wg ++ [oc ct qo fo]) ++ wm) H) (hD : va_D A ((wg ++ [oc ct qo fo]) ++ wm)) (hS : va_S A s.heap H locs) (hl : lv_has ls 7 (lvL b ag am qo i)) : W p l e room_1 s m #[Value.ref b] below meth c H locs cells slots Q (F0 m 948 ls []) := by
  obtain ⟨hx, hb, hml, hown, hts, hK, hX, hXm, hst, hA, hXs, hbl, hbA⟩ := F
  have hl : lv_has ls 7 [(0, .ref b), (1, .ref ag), (2, .ref am), (3, .ref qo), (4, .int i)] := hl
  refine lv_aload_n hx hb dL_law_948 rfl (lv_at hl 1 rfl) ?_
  refine lv_aload_n hx hb dL_law_949 rfl (lv_at hl 0 rfl) ?_
  refine lv_iload hx hb dL_law_950 (lv_at hl 4 rfl) ?_
  refine lv_iconst (v := 1) hx hb dL_law_952 (by decide) ?_
  refine lv_iadd hx hb dL_law_953 ?_
  refine va_sld hx hb hXs hbl hbA hS (vin_law h0 h1 hL (by decide)) dL_law_954 ?_
  refine lv_aload_n hx hb dL_law_955 rfl (lv_at hl 3 rfl) ?_
  refine kHS (rest := []) (X := wg ++ [oc ct qo fo]) (pl := wm) ⟨hx, hb, hml, hown, hts⟩ (w_turn l hst D ct ad sw wa ag qo H.size o q wg fo (xs (i + 1).toNatClampNeg) hG) (vx_cwSW 3 hts kw_W_turn rfl rfl rfl (by decide +kernel) ⟨(Nat.le_of_ble_eq_true rfl), (Nat.le_of_ble_eq_true rfl)⟩) (EL_ok ad sw wa) hX hK hP hD hS hA rfl hl.1 rfl (Nat.le_of_ble_eq_true rfl) dL_law_956 ⟨by show cells + 5 ≤ 601024; omega, by show slots + 30 ≤ 7293034; omega⟩ (fun r u H locs hr hP hD hS => ?_)
  obtain ⟨w1, fo1, o1⟩ := u
  have hG1 : GI ct ad ag o q w1 := by
    have h := hr.1
    have e : o1 = o := hr.2
    rw [← e]
    exact h
  have hP : va_P D vwCl ((w1 ++ [oc ct qo fo1]) ++ wm) H := hP
  have hD : va_D A ((w1 ++ [oc ct qo fo1]) ++ wm) := hD
  refine lv_istore (lv' := [(5, .int r), (0, .ref b), (1, .ref ag), (2, .ref am), (3, .ref qo), (4, .int i)]) hx hb dL_law_959 hl (by decide) rfl (fun ls hl => ?_)
  refine lv_aload_n hx hb dL_law_961 rfl (lv_at hl 3 rfl) ?_
  refine lv_aload_n hx hb dL_law_962 rfl (lv_at hl 1 rfl) ?_
  refine lv_iload hx hb dL_law_963 (lv_at hl 5 rfl) ?_
  refine lv_iconst (v := 1) hx hb dL_law_965 (by decide) ?_
  refine lv_iadd hx hb dL_law_966 ?_
  refine va_sld hx hb hXs hbl hbA hS (vin_law h0 h1 hL (by decide)) dL_law_967 ?_
  refine sM_turn (rest := []) (wx := w1 ++ [oc ct qo fo1]) ⟨hx, hb, hml, hown, hts⟩ (cwV 1 hts kw_M_turn rfl rfl rfl (by decide +kernel) ⟨(Nat.le_of_ble_eq_true rfl), (Nat.le_of_ble_eq_true rfl)⟩) hM hK (pc_ hP) (dc_ hD) hS hA hl.1 (Nat.le_of_ble_eq_true rfl) dL_law_968 ⟨by show cells + 5 + 0 ≤ 601024; omega, by show slots + 30 + 0 ≤ 7293034; omega⟩ (xs (i + 1).toNatClampNeg) (fun r2 q2 w2 H locs hx2 hM2 hP hD hS => ?_)
  have hP := pc_ hP
  have hD := dc_ hD
  have hG2 : GI ct ad ag o q2 w1 := GI_kq hG1 hx2
  refine lv_istore (lv' := [(6, .int r2), (5, .int r), (0, .ref b), (1, .ref ag), (2, .ref am), (3, .ref qo), (4, .int i)]) hx hb dL_law_971 hl (by decide) rfl (fun ls hl => ?_)
  refine lv_goto (tgt := 1448) hx hb dL_law_973 (by decide) ?_
  exact W.widen (by show cells + 5 + 0 ≤ cells + 5; omega) (by show slots + 30 + 0 ≤ slots + 30; omega) (K o q2 w1 w2 fo1 H locs ls hG2 hM2 hP hD hS (lv_sub hl [2, 3, 4, 5, 6] rfl))
theorem lc_21 (F : LF p l s m c b L xs D ct ad sw sad wa A) (h0 : 0 ≤ i.toInt) (h1 : i.toInt + 6 ≤ (L : Int)) (hL : L ≤ 3072) (hc : cells + 5 ≤ 601024 ∧ slots + 30 ≤ 7293034) (K : LK p l e s m below meth c b ag am qo D ct ad sad A Q i (cells + 5) (slots + 30)) (hG : GI ct ad ag o q wg) (hM : MI ct sad am o q (fun _ => True) wm) (hP : va_P D vwCl ((wg ++ [oc ct qo fo]) ++ wm) H) (hD : va_D A ((wg ++ [oc ct qo fo]) ++ wm)) (hS : va_S A s.heap H locs) (hl : lv_has ls 7 (lvL b ag am qo i)) : W p l e room_1 s m #[Value.ref b] below meth c H locs cells slots Q (F0 m 976 ls []) := by
  obtain ⟨hx, hb, hml, hown, hts, hK, hX, hXm, hst, hA, hXs, hbl, hbA⟩ := F
  have hl : lv_has ls 7 [(0, .ref b), (1, .ref ag), (2, .ref am), (3, .ref qo), (4, .int i)] := hl
  refine lv_aload_n hx hb dL_law_976 rfl (lv_at hl 1 rfl) ?_
  refine lv_aload_n hx hb dL_law_977 rfl (lv_at hl 0 rfl) ?_
  refine lv_iload hx hb dL_law_978 (lv_at hl 4 rfl) ?_
  refine lv_iconst (v := 1) hx hb dL_law_980 (by decide) ?_
  refine lv_iadd hx hb dL_law_981 ?_
  refine va_sld hx hb hXs hbl hbA hS (vin_law h0 h1 hL (by decide)) dL_law_982 ?_
  refine lv_aload_n hx hb dL_law_983 rfl (lv_at hl 0 rfl) ?_
  refine lv_iload hx hb dL_law_984 (lv_at hl 4 rfl) ?_
  refine lv_iconst (v := 2) hx hb dL_law_986 (by decide) ?_
  refine lv_iadd hx hb dL_law_987 ?_
  refine va_sld hx hb hXs hbl hbA hS (vin_law h0 h1 hL (by decide)) dL_law_988 ?_
  refine lv_aload_n hx hb dL_law_989 rfl (lv_at hl 3 rfl) ?_
  refine kHS (rest := []) (X := wg ++ [oc ct qo fo]) (pl := wm) ⟨hx, hb, hml, hown, hts⟩ (w_lasts l hst D ct ad sw wa ag qo H.size o q wg fo (xs (i + 1).toNatClampNeg) (xs (i + 2).toNatClampNeg) hG) (vx_cwSW 4 hts kw_W_lasts rfl rfl rfl (by decide +kernel) ⟨(Nat.le_of_ble_eq_true rfl), (Nat.le_of_ble_eq_true rfl)⟩) (EL_ok ad sw wa) hX hK hP hD hS hA rfl hl.1 rfl (Nat.le_of_ble_eq_true rfl) dL_law_990 ⟨by show cells + 5 ≤ 601024; omega, by show slots + 30 ≤ 7293034; omega⟩ (fun r u H locs hr hP hD hS => ?_)
  obtain ⟨w1, fo1, o1⟩ := u
  have hG1 : GI ct ad ag o q w1 := by
    have h := hr.1
    have e : o1 = o := hr.2
    rw [← e]
    exact h
  have hP : va_P D vwCl ((w1 ++ [oc ct qo fo1]) ++ wm) H := hP
  have hD : va_D A ((w1 ++ [oc ct qo fo1]) ++ wm) := hD
  refine lv_istore (lv' := [(5, .int r), (0, .ref b), (1, .ref ag), (2, .ref am), (3, .ref qo), (4, .int i)]) hx hb dL_law_993 hl (by decide) rfl (fun ls hl => ?_)
  refine lv_aload_n hx hb dL_law_995 rfl (lv_at hl 3 rfl) ?_
  refine lv_aload_n hx hb dL_law_996 rfl (lv_at hl 1 rfl) ?_
  refine lv_iload hx hb dL_law_997 (lv_at hl 5 rfl) ?_
  refine lv_iconst (v := 1) hx hb dL_law_999 (by decide) ?_
  refine lv_iadd hx hb dL_law_1000 ?_
  refine va_sld hx hb hXs hbl hbA hS (vin_law h0 h1 hL (by decide)) dL_law_1001 ?_
  refine lv_aload_n hx hb dL_law_1002 rfl (lv_at hl 1 rfl) ?_
  refine lv_iload hx hb dL_law_1003 (lv_at hl 5 rfl) ?_
  refine lv_iconst (v := 2) hx hb dL_law_1005 (by decide) ?_
  refine lv_iadd hx hb dL_law_1006 ?_
  refine va_sld hx hb hXs hbl hbA hS (vin_law h0 h1 hL (by decide)) dL_law_1007 ?_
  refine sM_lasts (rest := []) (wx := w1 ++ [oc ct qo fo1]) ⟨hx, hb, hml, hown, hts⟩ (cwV 2 hts kw_M_lasts rfl rfl rfl (by decide +kernel) ⟨(Nat.le_of_ble_eq_true rfl), (Nat.le_of_ble_eq_true rfl)⟩) hM hK (pc_ hP) (dc_ hD) hS hA hl.1 (Nat.le_of_ble_eq_true rfl) dL_law_1008 ⟨by show cells + 5 + 0 ≤ 601024; omega, by show slots + 30 + 0 ≤ 7293034; omega⟩ (xs (i + 1).toNatClampNeg) (xs (i + 2).toNatClampNeg) (fun r2 q2 w2 H locs hx2 hM2 hP hD hS => ?_)
  have hP := pc_ hP
  have hD := dc_ hD
  have hG2 : GI ct ad ag o q2 w1 := GI_kq hG1 hx2
  refine lv_istore (lv' := [(6, .int r2), (5, .int r), (0, .ref b), (1, .ref ag), (2, .ref am), (3, .ref qo), (4, .int i)]) hx hb dL_law_1011 hl (by decide) rfl (fun ls hl => ?_)
  refine lv_goto (tgt := 1448) hx hb dL_law_1013 (by decide) ?_
  exact W.widen (by show cells + 5 + 0 ≤ cells + 5; omega) (by show slots + 30 + 0 ≤ slots + 30; omega) (K o q2 w1 w2 fo1 H locs ls hG2 hM2 hP hD hS (lv_sub hl [2, 3, 4, 5, 6] rfl))
theorem lc_22 (F : LF p l s m c b L xs D ct ad sw sad wa A) (h0 : 0 ≤ i.toInt) (h1 : i.toInt + 6 ≤ (L : Int)) (hL : L ≤ 3072) (hc : cells + 5 ≤ 601024 ∧ slots + 30 ≤ 7293034) (K : LK p l e s m below meth c b ag am qo D ct ad sad A Q i (cells + 5) (slots + 30)) (hG : GI ct ad ag o q wg) (hM : MI ct sad am o q (fun _ => True) wm) (hP : va_P D vwCl ((wg ++ [oc ct qo fo]) ++ wm) H) (hD : va_D A ((wg ++ [oc ct qo fo]) ++ wm)) (hS : va_S A s.heap H locs) (hl : lv_has ls 7 (lvL b ag am qo i)) : W p l e room_1 s m #[Value.ref b] below meth c H locs cells slots Q (F0 m 1016 ls []) := by
  obtain ⟨hx, hb, hml, hown, hts, hK, hX, hXm, hst, hA, hXs, hbl, hbA⟩ := F
  have hl : lv_has ls 7 [(0, .ref b), (1, .ref ag), (2, .ref am), (3, .ref qo), (4, .int i)] := hl
  refine lv_aload_n hx hb dL_law_1016 rfl (lv_at hl 1 rfl) ?_
  refine lv_aload_n hx hb dL_law_1017 rfl (lv_at hl 0 rfl) ?_
  refine lv_iload hx hb dL_law_1018 (lv_at hl 4 rfl) ?_
  refine lv_iconst (v := 1) hx hb dL_law_1020 (by decide) ?_
  refine lv_iadd hx hb dL_law_1021 ?_
  refine va_sld hx hb hXs hbl hbA hS (vin_law h0 h1 hL (by decide)) dL_law_1022 ?_
  refine lv_aload_n hx hb dL_law_1023 rfl (lv_at hl 0 rfl) ?_
  refine lv_iload hx hb dL_law_1024 (lv_at hl 4 rfl) ?_
  refine lv_iconst (v := 2) hx hb dL_law_1026 (by decide) ?_
  refine lv_iadd hx hb dL_law_1027 ?_
  refine va_sld hx hb hXs hbl hbA hS (vin_law h0 h1 hL (by decide)) dL_law_1028 ?_
  refine lv_aload_n hx hb dL_law_1029 rfl (lv_at hl 0 rfl) ?_
  refine lv_iload hx hb dL_law_1030 (lv_at hl 4 rfl) ?_
  refine lv_iconst (v := 3) hx hb dL_law_1032 (by decide) ?_
  refine lv_iadd hx hb dL_law_1033 ?_
  refine va_sld hx hb hXs hbl hbA hS (vin_law h0 h1 hL (by decide)) dL_law_1034 ?_
  refine lv_aload_n hx hb dL_law_1035 rfl (lv_at hl 3 rfl) ?_
  refine kHS (rest := []) (X := wg ++ [oc ct qo fo]) (pl := wm) ⟨hx, hb, hml, hown, hts⟩ (w_best l hst D ct ad sw wa ag qo H.size o q wg fo (xs (i + 1).toNatClampNeg) (xs (i + 2).toNatClampNeg) (xs (i + 3).toNatClampNeg) hG) (vx_cwSW 5 hts kw_W_best rfl rfl rfl (by decide +kernel) ⟨(Nat.le_of_ble_eq_true rfl), (Nat.le_of_ble_eq_true rfl)⟩) (EL_ok ad sw wa) hX hK hP hD hS hA rfl hl.1 rfl (Nat.le_of_ble_eq_true rfl) dL_law_1036 ⟨by show cells + 5 ≤ 601024; omega, by show slots + 30 ≤ 7293034; omega⟩ (fun r u H locs hr hP hD hS => ?_)
  obtain ⟨w1, fo1, o1⟩ := u
  have hG1 : GI ct ad ag o q w1 := by
    have h := hr.1
    have e : o1 = o := hr.2
    rw [← e]
    exact h
  have hP : va_P D vwCl ((w1 ++ [oc ct qo fo1]) ++ wm) H := hP
  have hD : va_D A ((w1 ++ [oc ct qo fo1]) ++ wm) := hD
  refine lv_istore (lv' := [(5, .int r), (0, .ref b), (1, .ref ag), (2, .ref am), (3, .ref qo), (4, .int i)]) hx hb dL_law_1039 hl (by decide) rfl (fun ls hl => ?_)
  refine lv_aload_n hx hb dL_law_1041 rfl (lv_at hl 3 rfl) ?_
  refine lv_aload_n hx hb dL_law_1042 rfl (lv_at hl 1 rfl) ?_
  refine lv_iload hx hb dL_law_1043 (lv_at hl 5 rfl) ?_
  refine lv_iconst (v := 1) hx hb dL_law_1045 (by decide) ?_
  refine lv_iadd hx hb dL_law_1046 ?_
  refine va_sld hx hb hXs hbl hbA hS (vin_law h0 h1 hL (by decide)) dL_law_1047 ?_
  refine lv_aload_n hx hb dL_law_1048 rfl (lv_at hl 1 rfl) ?_
  refine lv_iload hx hb dL_law_1049 (lv_at hl 5 rfl) ?_
  refine lv_iconst (v := 2) hx hb dL_law_1051 (by decide) ?_
  refine lv_iadd hx hb dL_law_1052 ?_
  refine va_sld hx hb hXs hbl hbA hS (vin_law h0 h1 hL (by decide)) dL_law_1053 ?_
  refine lv_aload_n hx hb dL_law_1054 rfl (lv_at hl 1 rfl) ?_
  refine lv_iload hx hb dL_law_1055 (lv_at hl 5 rfl) ?_
  refine lv_iconst (v := 3) hx hb dL_law_1057 (by decide) ?_
  refine lv_iadd hx hb dL_law_1058 ?_
  refine va_sld hx hb hXs hbl hbA hS (vin_law h0 h1 hL (by decide)) dL_law_1059 ?_
  refine sM_best (rest := []) (wx := w1 ++ [oc ct qo fo1]) ⟨hx, hb, hml, hown, hts⟩ (cwV 3 hts kw_M_best rfl rfl rfl (by decide +kernel) ⟨(Nat.le_of_ble_eq_true rfl), (Nat.le_of_ble_eq_true rfl)⟩) hM hK (pc_ hP) (dc_ hD) hS hA hl.1 (Nat.le_of_ble_eq_true rfl) dL_law_1060 ⟨by show cells + 5 + 0 ≤ 601024; omega, by show slots + 30 + 0 ≤ 7293034; omega⟩ (xs (i + 1).toNatClampNeg) (xs (i + 2).toNatClampNeg) (xs (i + 3).toNatClampNeg) (fun r2 q2 w2 H locs hx2 hM2 hP hD hS => ?_)
  have hP := pc_ hP
  have hD := dc_ hD
  have hG2 : GI ct ad ag o q2 w1 := GI_kq hG1 hx2
  refine lv_istore (lv' := [(6, .int r2), (5, .int r), (0, .ref b), (1, .ref ag), (2, .ref am), (3, .ref qo), (4, .int i)]) hx hb dL_law_1063 hl (by decide) rfl (fun ls hl => ?_)
  refine lv_goto (tgt := 1448) hx hb dL_law_1065 (by decide) ?_
  exact W.widen (by show cells + 5 + 0 ≤ cells + 5; omega) (by show slots + 30 + 0 ≤ slots + 30; omega) (K o q2 w1 w2 fo1 H locs ls hG2 hM2 hP hD hS (lv_sub hl [2, 3, 4, 5, 6] rfl))
theorem lc_23 (F : LF p l s m c b L xs D ct ad sw sad wa A) (h0 : 0 ≤ i.toInt) (h1 : i.toInt + 6 ≤ (L : Int)) (hL : L ≤ 3072) (hc : cells + 5 ≤ 601024 ∧ slots + 30 ≤ 7293034) (K : LK p l e s m below meth c b ag am qo D ct ad sad A Q i (cells + 5) (slots + 30)) (hG : GI ct ad ag o q wg) (hM : MI ct sad am o q (fun _ => True) wm) (hP : va_P D vwCl ((wg ++ [oc ct qo fo]) ++ wm) H) (hD : va_D A ((wg ++ [oc ct qo fo]) ++ wm)) (hS : va_S A s.heap H locs) (hl : lv_has ls 7 (lvL b ag am qo i)) : W p l e room_1 s m #[Value.ref b] below meth c H locs cells slots Q (F0 m 1068 ls []) := by
  obtain ⟨hx, hb, hml, hown, hts, hK, hX, hXm, hst, hA, hXs, hbl, hbA⟩ := F
  have hl : lv_has ls 7 [(0, .ref b), (1, .ref ag), (2, .ref am), (3, .ref qo), (4, .int i)] := hl
  refine lv_aload_n hx hb dL_law_1068 rfl (lv_at hl 1 rfl) ?_
  refine lv_aload_n hx hb dL_law_1069 rfl (lv_at hl 0 rfl) ?_
  refine lv_iload hx hb dL_law_1070 (lv_at hl 4 rfl) ?_
  refine lv_iconst (v := 1) hx hb dL_law_1072 (by decide) ?_
  refine lv_iadd hx hb dL_law_1073 ?_
  refine va_sld hx hb hXs hbl hbA hS (vin_law h0 h1 hL (by decide)) dL_law_1074 ?_
  refine lv_aload_n hx hb dL_law_1075 rfl (lv_at hl 0 rfl) ?_
  refine lv_iload hx hb dL_law_1076 (lv_at hl 4 rfl) ?_
  refine lv_iconst (v := 2) hx hb dL_law_1078 (by decide) ?_
  refine lv_iadd hx hb dL_law_1079 ?_
  refine va_sld hx hb hXs hbl hbA hS (vin_law h0 h1 hL (by decide)) dL_law_1080 ?_
  refine lv_aload_n hx hb dL_law_1081 rfl (lv_at hl 3 rfl) ?_
  refine kHS (rest := []) (X := wg ++ [oc ct qo fo]) (pl := wm) ⟨hx, hb, hml, hown, hts⟩ (w_greatest l hst D ct ad sw wa ag qo H.size o q wg fo (xs (i + 1).toNatClampNeg) (xs (i + 2).toNatClampNeg) hG) (vx_cwSW 4 hts kw_W_greatest rfl rfl rfl (by decide +kernel) ⟨(Nat.le_of_ble_eq_true rfl), (Nat.le_of_ble_eq_true rfl)⟩) (EL_ok ad sw wa) hX hK hP hD hS hA rfl hl.1 rfl (Nat.le_of_ble_eq_true rfl) dL_law_1082 ⟨by show cells + 5 ≤ 601024; omega, by show slots + 30 ≤ 7293034; omega⟩ (fun r u H locs hr hP hD hS => ?_)
  obtain ⟨w1, fo1, o1⟩ := u
  have hG1 : GI ct ad ag o q w1 := by
    have h := hr.1
    have e : o1 = o := hr.2
    rw [← e]
    exact h
  have hP : va_P D vwCl ((w1 ++ [oc ct qo fo1]) ++ wm) H := hP
  have hD : va_D A ((w1 ++ [oc ct qo fo1]) ++ wm) := hD
  refine lv_istore (lv' := [(5, .int r), (0, .ref b), (1, .ref ag), (2, .ref am), (3, .ref qo), (4, .int i)]) hx hb dL_law_1085 hl (by decide) rfl (fun ls hl => ?_)
  refine lv_aload_n hx hb dL_law_1087 rfl (lv_at hl 3 rfl) ?_
  refine lv_aload_n hx hb dL_law_1088 rfl (lv_at hl 1 rfl) ?_
  refine lv_iload hx hb dL_law_1089 (lv_at hl 5 rfl) ?_
  refine lv_iconst (v := 1) hx hb dL_law_1091 (by decide) ?_
  refine lv_iadd hx hb dL_law_1092 ?_
  refine va_sld hx hb hXs hbl hbA hS (vin_law h0 h1 hL (by decide)) dL_law_1093 ?_
  refine lv_aload_n hx hb dL_law_1094 rfl (lv_at hl 1 rfl) ?_
  refine lv_iload hx hb dL_law_1095 (lv_at hl 5 rfl) ?_
  refine lv_iconst (v := 2) hx hb dL_law_1097 (by decide) ?_
  refine lv_iadd hx hb dL_law_1098 ?_
  refine va_sld hx hb hXs hbl hbA hS (vin_law h0 h1 hL (by decide)) dL_law_1099 ?_
  refine sM_greatest (rest := []) (wx := w1 ++ [oc ct qo fo1]) ⟨hx, hb, hml, hown, hts⟩ (cwV 2 hts kw_M_greatest rfl rfl rfl (by decide +kernel) ⟨(Nat.le_of_ble_eq_true rfl), (Nat.le_of_ble_eq_true rfl)⟩) hM hK (pc_ hP) (dc_ hD) hS hA hl.1 (Nat.le_of_ble_eq_true rfl) dL_law_1100 ⟨by show cells + 5 + 0 ≤ 601024; omega, by show slots + 30 + 0 ≤ 7293034; omega⟩ (xs (i + 1).toNatClampNeg) (xs (i + 2).toNatClampNeg) (fun r2 q2 w2 H locs hx2 hM2 hP hD hS => ?_)
  have hP := pc_ hP
  have hD := dc_ hD
  have hG2 : GI ct ad ag o q2 w1 := GI_kq hG1 hx2
  refine lv_istore (lv' := [(6, .int r2), (5, .int r), (0, .ref b), (1, .ref ag), (2, .ref am), (3, .ref qo), (4, .int i)]) hx hb dL_law_1103 hl (by decide) rfl (fun ls hl => ?_)
  refine lv_goto (tgt := 1448) hx hb dL_law_1105 (by decide) ?_
  exact W.widen (by show cells + 5 + 0 ≤ cells + 5; omega) (by show slots + 30 + 0 ≤ slots + 30; omega) (K o q2 w1 w2 fo1 H locs ls hG2 hM2 hP hD hS (lv_sub hl [2, 3, 4, 5, 6] rfl))
end LC
