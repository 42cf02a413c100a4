section LC
variable {p : Program} {l : Launch} {e : Env} {s : State} {m : MethodId} {below : List Frame} {meth : Method} {c : Code} {b L : Nat} {xs : Nat → Int32} {D : va_G} {ct : Nat → ClassId} {ad sw sad : Nat → Nat} {wa : Nat} {A : Nat → Prop} {Q : State → Prop} {ag am qo : Nat} {i : Int32} {cells slots : Nat} {o : OB} {q : OS} {wg wm : va_W} {fo : Nat → Int64} {H : Heap} {locs : List Loc} {ls : Array Slot}
theorem law_head (F : LF p l s m c b L xs D ct ad sw sad wa A) (h0 : 0 ≤ i.toInt) (h2 : i.toInt ≤ 4000) (hL : L ≤ 3072) (hS : va_S A s.heap H locs) (hl : lv_has ls 7 (lvL b ag am qo i)) (kout : W p l e room_1 s m #[Value.ref b] below meth c H locs cells slots Q (F0 m 1454 ls [])) (kin : i.toInt + 6 ≤ (L : Int) → W p l e room_1 s m #[Value.ref b] below meth c H locs cells slots Q (F0 m 33 ls [])) : W p l e room_1 s m #[Value.ref b] below meth c H locs cells slots Q (F0 m 23 ls []) := by
  obtain ⟨hx, hb, hml, hown, hts, hK, hX, hXm, hst, hA, hXs, hbl, hbA⟩ := F
  have hl : lv_has ls 7 [(0, .ref b), (1, .ref ag), (2, .ref am), (3, .ref qo), (4, .int i)] := hl
  refine lv_iload hx hb dL_law_23 (lv_at hl 4 rfl) ?_
  refine lv_aload_n hx hb dL_law_25 rfl (lv_at hl 0 rfl) ?_
  refine va_slen hx hb hXs hbl hbA hS dL_law_26 ?_
  refine lv_bipush (v := 6) hx hb dL_law_27 (by decide) ?_
  refine lv_isub hx hb dL_law_29 ?_
  refine lv_icmp_gt (tgt := 1454) hx hb dL_law_30 (by decide) (fun _ => kout) (fun q => kin ?_)
  have e1 : (Int32.ofNat L).toInt = (L : Int) := Int32.toInt_ofNat_of_lt (by omega)
  have e6 : (6 : Int32).toInt = 6 := by decide
  have e2 : (Int32.ofNat L - 6).toInt = (L : Int) - 6 := by
    rw [iv_tsub (by rw [e1, e6]; omega) (by rw [e1, e6]; omega), e1, e6]
  have := nlt_i q
  omega
theorem law_switch (F : LF p l s m c b L xs D ct ad sw sad wa A) (h0 : 0 ≤ i.toInt) (h1 : i.toInt + 6 ≤ (L : Int)) (hL : L ≤ 3072) (hc : cells + 5 ≤ 601024 ∧ slots + 30 ≤ 7293034) (K : LK p l e s m below meth c b ag am qo D ct ad sad A Q i (cells + 5) (slots + 30)) (hG : GI ct ad ag o q wg) (hM : MI ct sad am o q (fun _ => True) wm) (hP : va_P D vwCl ((wg ++ [oc ct qo fo]) ++ wm) H) (hD : va_D A ((wg ++ [oc ct qo fo]) ++ wm)) (hS : va_S A s.heap H locs) (hl : lv_has ls 7 (lvL b ag am qo i)) : W p l e room_1 s m #[Value.ref b] below meth c H locs cells slots Q (F0 m 33 ls []) := by
  have F0_ := F
  obtain ⟨hx, hb, hml, hown, hts, hK, hX, hXm, hst, hA, hXs, hbl, hbA⟩ := F
  have hl0 : lv_has ls 7 [(0, .ref b), (1, .ref ag), (2, .ref am), (3, .ref qo), (4, .int i)] := hl
  refine lv_aload_n hx hb dL_law_33 rfl (lv_at hl0 0 rfl) ?_
  refine lv_iload hx hb dL_law_34 (lv_at hl0 4 rfl) ?_
  refine va_sld hx hb hXs hbl hbA hS (vp_in_iff.mpr ⟨h0, by omega⟩) dL_law_36 ?_
  refine lv_bipush (v := 63) hx hb dL_law_37 (by decide) ?_
  refine lv_iand hx hb dL_law_39 ?_
  refine lv_topi (fun x ex => ?_)
  have hx0 : iv x 0 63 := iv_and ex (iv_lit (63 : Int32) (by decide) : iv (63 : Int32) 63 63) (by decide)
  have b0 : 0 ≤ x.toInt := hx0.1
  by_cases e0 : x = 0
  · rw [e0]; exact lv_tableIn (off := 156) (tgt := 196) hx hb dL_law_40 (by decide) (by decide) (by decide) (by decide) (lc_0 F0_ h0 h1 hL hc K hG hM hP hD hS hl)
  have b1 : 1 ≤ x.toInt := by
    have : x.toInt ≠ 0 := fun q => e0 (Int32.toInt_inj.mp (q.trans (by decide)))
    omega
  by_cases e1 : x = 1
  · rw [e1]; exact lv_tableIn (off := 229) (tgt := 269) hx hb dL_law_40 (by decide) (by decide) (by decide) (by decide) (lc_1 F0_ h0 h1 hL hc K hG hM hP hD hS hl)
  have b2 : 2 ≤ x.toInt := by
    have : x.toInt ≠ 1 := fun q => e1 (Int32.toInt_inj.mp (q.trans (by decide)))
    omega
  by_cases e2 : x = 2
  · rw [e2]; exact lv_tableIn (off := 257) (tgt := 297) hx hb dL_law_40 (by decide) (by decide) (by decide) (by decide) (lc_2 F0_ h0 h1 hL hc K hG hM hP hD hS hl)
  have b3 : 3 ≤ x.toInt := by
    have : x.toInt ≠ 2 := fun q => e2 (Int32.toInt_inj.mp (q.trans (by decide)))
    omega
  by_cases e3 : x = 3
  · rw [e3]; exact lv_tableIn (off := 270) (tgt := 310) hx hb dL_law_40 (by decide) (by decide) (by decide) (by decide) (lc_3 F0_ h0 h1 hL hc K hG hM hP hD hS hl)
  have b4 : 4 ≤ x.toInt := by
    have : x.toInt ≠ 3 := fun q => e3 (Int32.toInt_inj.mp (q.trans (by decide)))
    omega
  by_cases e4 : x = 4
  · rw [e4]; exact lv_tableIn (off := 298) (tgt := 338) hx hb dL_law_40 (by decide) (by decide) (by decide) (by decide) (lc_4 F0_ h0 h1 hL hc K hG hM hP hD hS hl)
  have b5 : 5 ≤ x.toInt := by
    have : x.toInt ≠ 4 := fun q => e4 (Int32.toInt_inj.mp (q.trans (by decide)))
    omega
  by_cases e5 : x = 5
  · rw [e5]; exact lv_tableIn (off := 338) (tgt := 378) hx hb dL_law_40 (by decide) (by decide) (by decide) (by decide) (lc_5 F0_ h0 h1 hL hc K hG hM hP hD hS hl)
  have b6 : 6 ≤ x.toInt := by
    have : x.toInt ≠ 5 := fun q => e5 (Int32.toInt_inj.mp (q.trans (by decide)))
    omega
  by_cases e6 : x = 6
  · rw [e6]; exact lv_tableIn (off := 378) (tgt := 418) hx hb dL_law_40 (by decide) (by decide) (by decide) (by decide) (lc_6 F0_ h0 h1 hL hc K hG hM hP hD hS hl)
  have b7 : 7 ≤ x.toInt := by
    have : x.toInt ≠ 6 := fun q => e6 (Int32.toInt_inj.mp (q.trans (by decide)))
    omega
  by_cases e7 : x = 7
  · rw [e7]; exact lv_tableIn (off := 403) (tgt := 443) hx hb dL_law_40 (by decide) (by decide) (by decide) (by decide) (lc_7 F0_ h0 h1 hL hc K hG hM hP hD hS hl)
  have b8 : 8 ≤ x.toInt := by
    have : x.toInt ≠ 7 := fun q => e7 (Int32.toInt_inj.mp (q.trans (by decide)))
    omega
  by_cases e8 : x = 8
  · rw [e8]; exact lv_tableIn (off := 455) (tgt := 495) hx hb dL_law_40 (by decide) (by decide) (by decide) (by decide) (lc_8 F0_ h0 h1 hL hc K hG hM hP hD hS hl)
  have b9 : 9 ≤ x.toInt := by
    have : x.toInt ≠ 8 := fun q => e8 (Int32.toInt_inj.mp (q.trans (by decide)))
    omega
  by_cases e9 : x = 9
  · rw [e9]; exact lv_tableIn (off := 483) (tgt := 523) hx hb dL_law_40 (by decide) (by decide) (by decide) (by decide) (lc_9 F0_ h0 h1 hL hc K hG hM hP hD hS hl)
  have b10 : 10 ≤ x.toInt := by
    have : x.toInt ≠ 9 := fun q => e9 (Int32.toInt_inj.mp (q.trans (by decide)))
    omega
  by_cases e10 : x = 10
  · rw [e10]; exact lv_tableIn (off := 523) (tgt := 563) hx hb dL_law_40 (by decide) (by decide) (by decide) (by decide) (lc_10 F0_ h0 h1 hL hc K hG hM hP hD hS hl)
  have b11 : 11 ≤ x.toInt := by
    have : x.toInt ≠ 10 := fun q => e10 (Int32.toInt_inj.mp (q.trans (by decide)))
    omega
  by_cases e11 : x = 11
  · rw [e11]; exact lv_tableIn (off := 563) (tgt := 603) hx hb dL_law_40 (by decide) (by decide) (by decide) (by decide) (lc_11 F0_ h0 h1 hL hc K hG hM hP hD hS hl)
  have b12 : 12 ≤ x.toInt := by
    have : x.toInt ≠ 11 := fun q => e11 (Int32.toInt_inj.mp (q.trans (by decide)))
    omega
  by_cases e12 : x = 12
  · rw [e12]; exact lv_tableIn (off := 576) (tgt := 616) hx hb dL_law_40 (by decide) (by decide) (by decide) (by decide) (lc_12 F0_ h0 h1 hL hc K hG hM hP hD hS hl)
  have b13 : 13 ≤ x.toInt := by
    have : x.toInt ≠ 12 := fun q => e12 (Int32.toInt_inj.mp (q.trans (by decide)))
    omega
  by_cases e13 : x = 13
  · rw [e13]; exact lv_tableIn (off := 628) (tgt := 668) hx hb dL_law_40 (by decide) (by decide) (by decide) (by decide) (lc_13 F0_ h0 h1 hL hc K hG hM hP hD hS hl)
  have b14 : 14 ≤ x.toInt := by
    have : x.toInt ≠ 13 := fun q => e13 (Int32.toInt_inj.mp (q.trans (by decide)))
    omega
  by_cases e14 : x = 14
  · rw [e14]; exact lv_tableIn (off := 680) (tgt := 720) hx hb dL_law_40 (by decide) (by decide) (by decide) (by decide) (lc_14 F0_ h0 h1 hL hc K hG hM hP hD hS hl)
  have b15 : 15 ≤ x.toInt := by
    have : x.toInt ≠ 14 := fun q => e14 (Int32.toInt_inj.mp (q.trans (by decide)))
    omega
  by_cases e15 : x = 15
  · rw [e15]; exact lv_tableIn (off := 708) (tgt := 748) hx hb dL_law_40 (by decide) (by decide) (by decide) (by decide) (lc_15 F0_ h0 h1 hL hc K hG hM hP hD hS hl)
  have b16 : 16 ≤ x.toInt := by
    have : x.toInt ≠ 15 := fun q => e15 (Int32.toInt_inj.mp (q.trans (by decide)))
    omega
  by_cases e16 : x = 16
  · rw [e16]; exact lv_tableIn (off := 748) (tgt := 788) hx hb dL_law_40 (by decide) (by decide) (by decide) (by decide) (lc_16 F0_ h0 h1 hL hc K hG hM hP hD hS hl)
  have b17 : 17 ≤ x.toInt := by
    have : x.toInt ≠ 16 := fun q => e16 (Int32.toInt_inj.mp (q.trans (by decide)))
    omega
  by_cases e17 : x = 17
  · rw [e17]; exact lv_tableIn (off := 788) (tgt := 828) hx hb dL_law_40 (by decide) (by decide) (by decide) (by decide) (lc_17 F0_ h0 h1 hL hc K hG hM hP hD hS hl)
  have b18 : 18 ≤ x.toInt := by
    have : x.toInt ≠ 17 := fun q => e17 (Int32.toInt_inj.mp (q.trans (by decide)))
    omega
  by_cases e18 : x = 18
  · rw [e18]; exact lv_tableIn (off := 828) (tgt := 868) hx hb dL_law_40 (by decide) (by decide) (by decide) (by decide) (lc_18 F0_ h0 h1 hL hc K hG hM hP hD hS hl)
  have b19 : 19 ≤ x.toInt := by
    have : x.toInt ≠ 18 := fun q => e18 (Int32.toInt_inj.mp (q.trans (by decide)))
    omega
  by_cases e19 : x = 19
  · rw [e19]; exact lv_tableIn (off := 880) (tgt := 920) hx hb dL_law_40 (by decide) (by decide) (by decide) (by decide) (lc_19 F0_ h0 h1 hL hc K hG hM hP hD hS hl)
  have b20 : 20 ≤ x.toInt := by
    have : x.toInt ≠ 19 := fun q => e19 (Int32.toInt_inj.mp (q.trans (by decide)))
    omega
  by_cases e20 : x = 20
  · rw [e20]; exact lv_tableIn (off := 908) (tgt := 948) hx hb dL_law_40 (by decide) (by decide) (by decide) (by decide) (lc_20 F0_ h0 h1 hL hc K hG hM hP hD hS hl)
  have b21 : 21 ≤ x.toInt := by
    have : x.toInt ≠ 20 := fun q => e20 (Int32.toInt_inj.mp (q.trans (by decide)))
    omega
  by_cases e21 : x = 21
  · rw [e21]; exact lv_tableIn (off := 936) (tgt := 976) hx hb dL_law_40 (by decide) (by decide) (by decide) (by decide) (lc_21 F0_ h0 h1 hL hc K hG hM hP hD hS hl)
  have b22 : 22 ≤ x.toInt := by
    have : x.toInt ≠ 21 := fun q => e21 (Int32.toInt_inj.mp (q.trans (by decide)))
    omega
  by_cases e22 : x = 22
  · rw [e22]; exact lv_tableIn (off := 976) (tgt := 1016) hx hb dL_law_40 (by decide) (by decide) (by decide) (by decide) (lc_22 F0_ h0 h1 hL hc K hG hM hP hD hS hl)
  have b23 : 23 ≤ x.toInt := by
    have : x.toInt ≠ 22 := fun q => e22 (Int32.toInt_inj.mp (q.trans (by decide)))
    omega
  by_cases e23 : x = 23
  · rw [e23]; exact lv_tableIn (off := 1028) (tgt := 1068) hx hb dL_law_40 (by decide) (by decide) (by decide) (by decide) (lc_23 F0_ h0 h1 hL hc K hG hM hP hD hS hl)
  have b24 : 24 ≤ x.toInt := by
    have : x.toInt ≠ 23 := fun q => e23 (Int32.toInt_inj.mp (q.trans (by decide)))
    omega
  by_cases e24 : x = 24
  · rw [e24]; exact lv_tableIn (off := 1068) (tgt := 1108) hx hb dL_law_40 (by decide) (by decide) (by decide) (by decide) (lc_24 F0_ h0 h1 hL hc K hG hM hP hD hS hl)
  have b25 : 25 ≤ x.toInt := by
    have : x.toInt ≠ 24 := fun q => e24 (Int32.toInt_inj.mp (q.trans (by decide)))
    omega
  by_cases e25 : x = 25
  · rw [e25]; exact lv_tableIn (off := 1096) (tgt := 1136) hx hb dL_law_40 (by decide) (by decide) (by decide) (by decide) (lc_25 F0_ h0 h1 hL hc K hG hM hP hD hS hl)
  have b26 : 26 ≤ x.toInt := by
    have : x.toInt ≠ 25 := fun q => e25 (Int32.toInt_inj.mp (q.trans (by decide)))
    omega
  by_cases e26 : x = 26
  · rw [e26]; exact lv_tableIn (off := 1109) (tgt := 1149) hx hb dL_law_40 (by decide) (by decide) (by decide) (by decide) (lc_26 F0_ h0 h1 hL hc K hG hM hP hD hS hl)
  have b27 : 27 ≤ x.toInt := by
    have : x.toInt ≠ 26 := fun q => e26 (Int32.toInt_inj.mp (q.trans (by decide)))
    omega
  by_cases e27 : x = 27
  · rw [e27]; exact lv_tableIn (off := 1161) (tgt := 1201) hx hb dL_law_40 (by decide) (by decide) (by decide) (by decide) (lc_27 F0_ h0 h1 hL hc K hG hM hP hD hS hl)
  have b28 : 28 ≤ x.toInt := by
    have : x.toInt ≠ 27 := fun q => e27 (Int32.toInt_inj.mp (q.trans (by decide)))
    omega
  by_cases e28 : x = 28
  · rw [e28]; exact lv_tableIn (off := 1189) (tgt := 1229) hx hb dL_law_40 (by decide) (by decide) (by decide) (by decide) (lc_28 F0_ h0 h1 hL hc K hG hM hP hD hS hl)
  have b29 : 29 ≤ x.toInt := by
    have : x.toInt ≠ 28 := fun q => e28 (Int32.toInt_inj.mp (q.trans (by decide)))
    omega
  by_cases e29 : x = 29
  · rw [e29]; exact lv_tableIn (off := 1217) (tgt := 1257) hx hb dL_law_40 (by decide) (by decide) (by decide) (by decide) (lc_29 F0_ h0 h1 hL hc K hG hM hP hD hS hl)
  have b30 : 30 ≤ x.toInt := by
    have : x.toInt ≠ 29 := fun q => e29 (Int32.toInt_inj.mp (q.trans (by decide)))
    omega
  by_cases e30 : x = 30
  · rw [e30]; exact lv_tableIn (off := 1228) (tgt := 1268) hx hb dL_law_40 (by decide) (by decide) (by decide) (by decide) (lc_30 F0_ h0 h1 hL hc K hG hM hP hD hS hl)
  have b31 : 31 ≤ x.toInt := by
    have : x.toInt ≠ 30 := fun q => e30 (Int32.toInt_inj.mp (q.trans (by decide)))
    omega
  by_cases e31 : x = 31
  · rw [e31]; exact lv_tableIn (off := 1280) (tgt := 1320) hx hb dL_law_40 (by decide) (by decide) (by decide) (by decide) (lc_31 F0_ h0 h1 hL hc K hG hM hP hD hS hl)
  have b32 : 32 ≤ x.toInt := by
    have : x.toInt ≠ 31 := fun q => e31 (Int32.toInt_inj.mp (q.trans (by decide)))
    omega
  by_cases e32 : x = 32
  · rw [e32]; exact lv_tableIn (off := 1332) (tgt := 1372) hx hb dL_law_40 (by decide) (by decide) (by decide) (by decide) (lc_32 F0_ h0 h1 hL hc K hG hM hP hD hS hl)
  have b33 : 33 ≤ x.toInt := by
    have : x.toInt ≠ 32 := fun q => e32 (Int32.toInt_inj.mp (q.trans (by decide)))
    omega
  by_cases e33 : x = 33
  · rw [e33]; exact lv_tableIn (off := 1384) (tgt := 1424) hx hb dL_law_40 (by decide) (by decide) (by decide) (by decide) (lc_33 F0_ h0 h1 hL hc K hG hM hP hD hS hl)
  have b34 : 34 ≤ x.toInt := by
    have : x.toInt ≠ 33 := fun q => e33 (Int32.toInt_inj.mp (q.trans (by decide)))
    omega
  by_cases e34 : x = 34
  · rw [e34]; exact lv_tableIn (off := 1395) (tgt := 1435) hx hb dL_law_40 (by decide) (by decide) (by decide) (by decide) (lc_34 F0_ h0 h1 hL hc K hG hM hP hD hS hl)
  have b35 : 35 ≤ x.toInt := by
    have : x.toInt ≠ 34 := fun q => e34 (Int32.toInt_inj.mp (q.trans (by decide)))
    omega
  exact lv_tableOut (tgt := 1448) hx hb dL_law_40 (Or.inr (by omega)) (by decide) (W.widen (by omega) (by omega) (K o q wg wm fo H locs ls hG hM hP hD hS hl))
theorem law_loop (F : LF p l s m c b L xs D ct ad sw sad wa A) (hL : L ≤ 3072) (kend : ∀ (H : Heap) (locs : List Loc) (ls : Array Slot), va_S A s.heap H locs → W p l e room_1 s m #[Value.ref b] below meth c H locs 601024 7293034 Q (F0 m 1454 ls [])) :
    ∀ (n : Nat) (i : Int32) (cells slots : Nat) (o : OB) (q : OS) (wg wm : va_W) (fo : Nat → Int64) (H : Heap) (locs : List Loc) (ls : Array Slot), 0 ≤ i.toInt → i.toInt ≤ 4000 → (L : Int) - i.toInt < 6 * (n : Int) → cells + 5 * n ≤ 601024 → slots + 30 * n ≤ 7293034 → GI ct ad ag o q wg → MI ct sad am o q (fun _ => True) wm → va_P D vwCl ((wg ++ [oc ct qo fo]) ++ wm) H → va_D A ((wg ++ [oc ct qo fo]) ++ wm) → va_S A s.heap H locs → lv_has ls 7 (lvL b ag am qo i) → W p l e room_1 s m #[Value.ref b] below meth c H locs cells slots Q (F0 m 23 ls []) := by
  intro n
  induction n with
  | zero =>
    intro i cells slots o q wg wm fo H locs ls h0 h2 hn hc hs hG hM hP hD hS hl
    exact law_head F h0 h2 hL hS hl (W.widen (by omega) (by omega) (kend H locs ls hS)) (fun q9 => absurd q9 (by omega))
  | succ n ih =>
    intro i cells slots o q wg wm fo H locs ls h0 h2 hn hc hs hG hM hP hD hS hl
    refine law_head F h0 h2 hL hS hl (W.widen (by omega) (by omega) (kend H locs ls hS)) (fun h1 => ?_)
    refine law_switch F h0 h1 hL ⟨by omega, by omega⟩ ?_ hG hM hP hD hS hl
    intro o q wg wm fo H locs ls hG hM hP hD hS hl
    have hx := F.1
    have hb := F.2.1
    have hl : lv_has ls 7 [(0, .ref b), (1, .ref ag), (2, .ref am), (3, .ref qo), (4, .int i)] := hl
    have e6 : (6 : Int32).toInt = 6 := by decide
    have e : (i + 6).toInt = i.toInt + 6 := by
      rw [iv_tadd (by rw [e6]; omega) (by rw [e6]; omega), e6]
    refine lv_iinc (k := 4) (v := i + 6) (lv' := [(4, .int (i + 6)), (0, .ref b), (1, .ref ag), (2, .ref am), (3, .ref qo)]) hx hb dL_law_1448 hl rfl rfl (by decide) rfl (fun ls hl => ?_)
    refine lv_goto (tgt := 23) hx hb dL_law_1451 (by decide) ?_
    exact ih (i + 6) (cells + 5) (slots + 30) o q wg wm fo H locs ls (by omega) (by omega) (by omega) (by omega) (by omega) hG hM hP hD hS (lv_sub hl [1, 2, 3, 4, 0] rfl)
end LC
