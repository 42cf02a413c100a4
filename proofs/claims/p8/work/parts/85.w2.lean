set_option maxHeartbeats 4000000 in
set_option maxRecDepth 100000 in
theorem w_best (l : Launch) (hst : l.stackTraces = false) (D : va_G) (ct : Nat → ClassId) (ad sw : Nat → Nat) (wa a0 qo sz : Nat) (o : OB) (q : OS) (wg : va_W) (fo : Nat → Int64) (p1 p2 p3 : Int32) (hI : GI ct ad a0 o q wg) : eI (EL ad sw wa) l yL_best wwL_best rmW D ct (wg ++ [oc ct qo fo]) sz [.ref a0, .int p1, .int p2, .int p3, .ref qo] (fun (k9 : Int32) (u : va_W × (Nat → Int64) × OB) => GI ct ad a0 u.2.2 q u.1 ∧ u.2.2 = o) (fun u : va_W × (Nat → Int64) × OB => u.1 ++ [oc ct qo u.2.1]) := by
  refine eIH_of (cc := cL_best) (maxL := 6) (hh := [(0, 12, 15, 18), (0, 12, 19, 13)]) (by decide) rfl (Nat.le_of_ble_eq_true rfl) ?_
  intro p e s m args below meth c Q A hx hb hml hts hown hK hP hD hA hX hT hE ls hl
  have hS : va_S A s.heap s.heap [] := va_S.rf
  have hl : lv_has ls 6 [(0, .ref a0), (1, .int p1), (2, .int p2), (3, .int p3), (4, .ref qo)] := hl
  refine lv_aload hx hb dL_best_0 (lv_at hl 4 rfl) ?_
  refine lv_iconst (v := 0) hx hb dL_best_2 (by decide) ?_
  refine lv_aload_n hx hb dL_best_3 rfl (lv_at hl 0 rfl) ?_
  refine lv_iload_n hx hb dL_best_4 rfl (lv_at hl 1 rfl) ?_
  refine lv_iload_n hx hb dL_best_5 rfl (lv_at hl 2 rfl) ?_
  refine lv_iload_n hx hb dL_best_6 rfl (lv_at hl 3 rfl) ?_
  refine sG_best (rest := [.int 0, .ref qo]) ⟨hx, hb, hml, hown, hts⟩ (cwV 3 hts (gInV gTL_good (gTL_11 633 (by decide +kernel)) 57 58 59 2 (by decide +kernel) (by decide +kernel) (by decide +kernel) (by decide +kernel)) rfl rfl rfl (by decide +kernel) ⟨(Nat.le_of_ble_eq_true rfl), (Nat.le_of_ble_eq_true rfl)⟩) hI hX.1 hst hK hP hD hS hA hl.1 (Nat.le_of_ble_eq_true rfl) dL_best_7 ⟨(Nat.le_of_ble_eq_true rfl), (Nat.le_of_ble_eq_true rfl)⟩ p1 p2 p3 (fun E ce q9 H1 locs1 hE9 h9 hv9 hcl hP1 hD1 hS1 => ?_) (fun r w1 H1 locs1 hI1 hP1 hD1 hS1 => ?_)
  · rcases List.mem_cons.mp hE9 with hE9 | hE9
    · subst hE9
      refine vx_catch (own := RL) (name := xN) hown [] ⟨0, 12, 15, 18⟩ [⟨0, 12, 19, 13⟩] hT (fun z hz => by cases hz) (by decide) (by decide) (hts _ (inT 1 (by decide +kernel))) (hX.1.2.2.2.2.1.use rfl) h9 hv9 hcl ?_
      refine lv_astore hx hb dL_best_15 hl (by decide) rfl (fun ls hl => ?_)
      refine lv_iconst (v := 1) hx hb dL_best_17 (by decide) ?_
      exact W.widen (Nat.le_of_ble_eq_true rfl) (Nat.le_of_ble_eq_true rfl) (hE 1 (wg, fo, o) 18 ls H1 locs1 rfl ⟨hI, rfl⟩ hP1 hD1 hS1 dL_best_18)
    · have hE9 := List.mem_singleton.mp hE9
      subst hE9
      refine vx_catch (own := RL) (name := xI) hown [⟨0, 12, 15, 18⟩] ⟨0, 12, 19, 13⟩ [] hT (fun z hz => Or.inr (by rw [List.mem_singleton.mp hz]; exact ⟨by decide, xN, hts _ (inT 1 (by decide +kernel)), hX.2.2⟩)) (by decide) (by decide) (hts _ (inT 0 (by decide +kernel))) (hX.1.2.2.2.1.use rfl) h9 hv9 hcl ?_
      refine lv_astore hx hb dL_best_19 hl (by decide) rfl (fun ls hl => ?_)
      refine lv_iconst (v := 2) hx hb dL_best_21 (by decide) ?_
      exact W.widen (Nat.le_of_ble_eq_true rfl) (Nat.le_of_ble_eq_true rfl) (hE 2 (wg, fo, o) 22 ls H1 locs1 rfl ⟨hI, rfl⟩ hP1 hD1 hS1 dL_best_22)
  · refine lv_i2l hx hb dL_best_10 rfl ?_
    refine va_last (n := 1) (f := fo) hx hb hK (pc_ hP1) (dc_ hD1) hS1 0 3 rfl rfl (show ¬ ((0 : Int32) < 0 ∨ 1 ≤ (0 : Int32).toNatClampNeg) by decide) dL_best_11 (fun H2 locs2 hP2 hD2 hS2 => ?_)
    have hP2 : va_P D vwCl ([oc ct qo (vp_updL fo (0 : Int32).toNatClampNeg r.toInt64)] ++ w1) H2 := hP2
    have hD2 : va_D A ([oc ct qo (vp_updL fo (0 : Int32).toNatClampNeg r.toInt64)] ++ w1) := hD2
    refine lv_goto (tgt := 23) hx hb dL_best_12 (by decide) ?_
    refine lv_iconst (v := 0) hx hb dL_best_23 (by decide) ?_
    exact W.widen (Nat.le_of_ble_eq_true rfl) (Nat.le_of_ble_eq_true rfl) (hE 0 (w1, (vp_updL fo (0 : Int32).toNatClampNeg r.toInt64), o) 24 ls H2 locs2 rfl ⟨hI1, rfl⟩ (pc_ hP2) (dc_ hD2) hS2 dL_best_24)
set_option maxHeartbeats 4000000 in
set_option maxRecDepth 100000 in
theorem w_greatest (l : Launch) (hst : l.stackTraces = false) (D : va_G) (ct : Nat → ClassId) (ad sw : Nat → Nat) (wa a0 qo sz : Nat) (o : OB) (q : OS) (wg : va_W) (fo : Nat → Int64) (p1 p2 : Int32) (hI : GI ct ad a0 o q wg) : eI (EL ad sw wa) l yL_greatest wwL_greatest rmW D ct (wg ++ [oc ct qo fo]) sz [.ref a0, .int p1, .int p2, .ref qo] (fun (k9 : Int32) (u : va_W × (Nat → Int64) × OB) => GI ct ad a0 u.2.2 q u.1 ∧ u.2.2 = o) (fun u : va_W × (Nat → Int64) × OB => u.1 ++ [oc ct qo u.2.1]) := by
  refine eIH_of (cc := cL_greatest) (maxL := 5) (hh := [(0, 10, 13, 18), (0, 10, 17, 13)]) (by decide) rfl (Nat.le_of_ble_eq_true rfl) ?_
  intro p e s m args below meth c Q A hx hb hml hts hown hK hP hD hA hX hT hE ls hl
  have hS : va_S A s.heap s.heap [] := va_S.rf
  have hl : lv_has ls 5 [(0, .ref a0), (1, .int p1), (2, .int p2), (3, .ref qo)] := hl
  refine lv_aload_n hx hb dL_greatest_0 rfl (lv_at hl 3 rfl) ?_
  refine lv_iconst (v := 0) hx hb dL_greatest_1 (by decide) ?_
  refine lv_aload_n hx hb dL_greatest_2 rfl (lv_at hl 0 rfl) ?_
  refine lv_iload_n hx hb dL_greatest_3 rfl (lv_at hl 1 rfl) ?_
  refine lv_iload_n hx hb dL_greatest_4 rfl (lv_at hl 2 rfl) ?_
  refine sG_greatest (rest := [.int 0, .ref qo]) ⟨hx, hb, hml, hown, hts⟩ (cwV 2 hts (gInV gTL_good (gTL_11 634 (by decide +kernel)) 60 61 62 2 (by decide +kernel) (by decide +kernel) (by decide +kernel) (by decide +kernel)) rfl rfl rfl (by decide +kernel) ⟨(Nat.le_of_ble_eq_true rfl), (Nat.le_of_ble_eq_true rfl)⟩) hI hX.1 hst hK hP hD hS hA hl.1 (Nat.le_of_ble_eq_true rfl) dL_greatest_5 ⟨(Nat.le_of_ble_eq_true rfl), (Nat.le_of_ble_eq_true rfl)⟩ p1 p2 (fun E ce q9 H1 locs1 hE9 h9 hv9 hcl hP1 hD1 hS1 => ?_) (fun r w1 H1 locs1 hI1 hP1 hD1 hS1 => ?_)
  · rcases List.mem_cons.mp hE9 with hE9 | hE9
    · subst hE9
      refine vx_catch (own := RL) (name := xN) hown [] ⟨0, 10, 13, 18⟩ [⟨0, 10, 17, 13⟩] hT (fun z hz => by cases hz) (by decide) (by decide) (hts _ (inT 1 (by decide +kernel))) (hX.1.2.2.2.2.1.use rfl) h9 hv9 hcl ?_
      refine lv_astore hx hb dL_greatest_13 hl (by decide) rfl (fun ls hl => ?_)
      refine lv_iconst (v := 1) hx hb dL_greatest_15 (by decide) ?_
      exact W.widen (Nat.le_of_ble_eq_true rfl) (Nat.le_of_ble_eq_true rfl) (hE 1 (wg, fo, o) 16 ls H1 locs1 rfl ⟨hI, rfl⟩ hP1 hD1 hS1 dL_greatest_16)
    · have hE9 := List.mem_singleton.mp hE9
      subst hE9
      refine vx_catch (own := RL) (name := xI) hown [⟨0, 10, 13, 18⟩] ⟨0, 10, 17, 13⟩ [] hT (fun z hz => Or.inr (by rw [List.mem_singleton.mp hz]; exact ⟨by decide, xN, hts _ (inT 1 (by decide +kernel)), hX.2.2⟩)) (by decide) (by decide) (hts _ (inT 0 (by decide +kernel))) (hX.1.2.2.2.1.use rfl) h9 hv9 hcl ?_
      refine lv_astore hx hb dL_greatest_17 hl (by decide) rfl (fun ls hl => ?_)
      refine lv_iconst (v := 2) hx hb dL_greatest_19 (by decide) ?_
      exact W.widen (Nat.le_of_ble_eq_true rfl) (Nat.le_of_ble_eq_true rfl) (hE 2 (wg, fo, o) 20 ls H1 locs1 rfl ⟨hI, rfl⟩ hP1 hD1 hS1 dL_greatest_20)
  · refine lv_i2l hx hb dL_greatest_8 rfl ?_
    refine va_last (n := 1) (f := fo) hx hb hK (pc_ hP1) (dc_ hD1) hS1 0 3 rfl rfl (show ¬ ((0 : Int32) < 0 ∨ 1 ≤ (0 : Int32).toNatClampNeg) by decide) dL_greatest_9 (fun H2 locs2 hP2 hD2 hS2 => ?_)
    have hP2 : va_P D vwCl ([oc ct qo (vp_updL fo (0 : Int32).toNatClampNeg r.toInt64)] ++ w1) H2 := hP2
    have hD2 : va_D A ([oc ct qo (vp_updL fo (0 : Int32).toNatClampNeg r.toInt64)] ++ w1) := hD2
    refine lv_goto (tgt := 21) hx hb dL_greatest_10 (by decide) ?_
    refine lv_iconst (v := 0) hx hb dL_greatest_21 (by decide) ?_
    exact W.widen (Nat.le_of_ble_eq_true rfl) (Nat.le_of_ble_eq_true rfl) (hE 0 (w1, (vp_updL fo (0 : Int32).toNatClampNeg r.toInt64), o) 22 ls H2 locs2 rfl ⟨hI1, rfl⟩ (pc_ hP2) (dc_ hD2) hS2 dL_greatest_22)
set_option maxHeartbeats 4000000 in
set_option maxRecDepth 100000 in
theorem w_empty (l : Launch) (hst : l.stackTraces = false) (D : va_G) (ct : Nat → ClassId) (ad sw : Nat → Nat) (wa a0 qo sz : Nat) (o : OB) (q : OS) (wg : va_W) (fo : Nat → Int64) (p1 : Int32) (hI : GI ct ad a0 o q wg) : eI (EL ad sw wa) l yL_empty wwL_empty rmW D ct (wg ++ [oc ct qo fo]) sz [.ref a0, .int p1, .ref qo] (fun (k9 : Int32) (u : va_W × (Nat → Int64) × OB) => GI ct ad a0 u.2.2 q u.1 ∧ u.2.2 = o) (fun u : va_W × (Nat → Int64) × OB => u.1 ++ [oc ct qo u.2.1]) := by
  refine eIH_of (cc := cL_empty) (maxL := 4) (hh := [(0, 9, 12, 13)]) (by decide) rfl (Nat.le_of_ble_eq_true rfl) ?_
  intro p e s m args below meth c Q A hx hb hml hts hown hK hP hD hA hX hT hE ls hl
  have hS : va_S A s.heap s.heap [] := va_S.rf
  have hl : lv_has ls 4 [(0, .ref a0), (1, .int p1), (2, .ref qo)] := hl
  refine lv_aload_n hx hb dL_empty_0 rfl (lv_at hl 2 rfl) ?_
  refine lv_iconst (v := 0) hx hb dL_empty_1 (by decide) ?_
  refine lv_aload_n hx hb dL_empty_2 rfl (lv_at hl 0 rfl) ?_
  refine lv_iload_n hx hb dL_empty_3 rfl (lv_at hl 1 rfl) ?_
  refine sG_empty (rest := [.int 0, .ref qo]) ⟨hx, hb, hml, hown, hts⟩ (cwV 1 hts (gInV gTL_good (gTL_11 643 (by decide +kernel)) 63 64 65 2 (by decide +kernel) (by decide +kernel) (by decide +kernel) (by decide +kernel)) rfl rfl rfl (by decide +kernel) ⟨(Nat.le_of_ble_eq_true rfl), (Nat.le_of_ble_eq_true rfl)⟩) hI hX.1 hst hK hP hD hS hA hl.1 (Nat.le_of_ble_eq_true rfl) dL_empty_4 ⟨(Nat.le_of_ble_eq_true rfl), (Nat.le_of_ble_eq_true rfl)⟩ p1 (fun E ce q9 H1 locs1 hE9 h9 hv9 hcl hP1 hD1 hS1 => ?_) (fun r w1 H1 locs1 hI1 hP1 hD1 hS1 => ?_)
  · have hE9 := List.mem_singleton.mp hE9
    subst hE9
    refine vx_catch (own := RL) (name := xI) hown [] ⟨0, 9, 12, 13⟩ [] hT (fun z hz => by cases hz) (by decide) (by decide) (hts _ (inT 0 (by decide +kernel))) (hX.1.2.2.2.1.use rfl) h9 hv9 hcl ?_
    refine lv_astore_n hx hb dL_empty_12 rfl hl (by decide) rfl (fun ls hl => ?_)
    refine lv_iconst (v := 1) hx hb dL_empty_13 (by decide) ?_
    exact W.widen (Nat.le_of_ble_eq_true rfl) (Nat.le_of_ble_eq_true rfl) (hE 1 (wg, fo, o) 14 ls H1 locs1 rfl ⟨hI, rfl⟩ hP1 hD1 hS1 dL_empty_14)
  · refine lv_i2l hx hb dL_empty_7 rfl ?_
    refine va_last (n := 1) (f := fo) hx hb hK (pc_ hP1) (dc_ hD1) hS1 0 3 rfl rfl (show ¬ ((0 : Int32) < 0 ∨ 1 ≤ (0 : Int32).toNatClampNeg) by decide) dL_empty_8 (fun H2 locs2 hP2 hD2 hS2 => ?_)
    have hP2 : va_P D vwCl ([oc ct qo (vp_updL fo (0 : Int32).toNatClampNeg r.toInt64)] ++ w1) H2 := hP2
    have hD2 : va_D A ([oc ct qo (vp_updL fo (0 : Int32).toNatClampNeg r.toInt64)] ++ w1) := hD2
    refine lv_goto (tgt := 15) hx hb dL_empty_9 (by decide) ?_
    refine lv_iconst (v := 0) hx hb dL_empty_15 (by decide) ?_
    exact W.widen (Nat.le_of_ble_eq_true rfl) (Nat.le_of_ble_eq_true rfl) (hE 0 (w1, (vp_updL fo (0 : Int32).toNatClampNeg r.toInt64), o) 16 ls H2 locs2 rfl ⟨hI1, rfl⟩ (pc_ hP2) (dc_ hD2) hS2 dL_empty_16)
set_option maxHeartbeats 4000000 in
set_option maxRecDepth 100000 in
theorem w_see (l : Launch) (hst : l.stackTraces = false) (D : va_G) (ct : Nat → ClassId) (ad sw : Nat → Nat) (wa a0 qo sz : Nat) (o : OB) (q : OS) (wg : va_W) (fo : Nat → Int64) (p1 p2 p3 : Int32) (hI : GI ct ad a0 o q wg) : eI (EL ad sw wa) l yL_see wwL_see rmW D ct (wg ++ [oc ct qo fo]) sz [.ref a0, .int p1, .int p2, .int p3, .ref qo] (fun (k9 : Int32) (u : va_W × (Nat → Int64) × OB) => (∀ (c9 r9 : Int32) (q9 : OS), XM_see q p1 p2 p3 c9 r9 q9 → GI ct ad a0 u.2.2 q9 u.1) ∧ u.2.2 = o) (fun u : va_W × (Nat → Int64) × OB => u.1 ++ [oc ct qo u.2.1]) := by
  refine eIH_of (cc := cL_see) (maxL := 6) (hh := [(0, 12, 15, 18)]) (by decide) rfl (Nat.le_of_ble_eq_true rfl) ?_
  intro p e s m args below meth c Q A hx hb hml hts hown hK hP hD hA hX hT hE ls hl
  have hS : va_S A s.heap s.heap [] := va_S.rf
  have hl : lv_has ls 6 [(0, .ref a0), (1, .int p1), (2, .int p2), (3, .int p3), (4, .ref qo)] := hl
  refine lv_aload hx hb dL_see_0 (lv_at hl 4 rfl) ?_
  refine lv_iconst (v := 0) hx hb dL_see_2 (by decide) ?_
  refine lv_aload_n hx hb dL_see_3 rfl (lv_at hl 0 rfl) ?_
  refine lv_iload_n hx hb dL_see_4 rfl (lv_at hl 1 rfl) ?_
  refine lv_iload_n hx hb dL_see_5 rfl (lv_at hl 2 rfl) ?_
  refine lv_iload_n hx hb dL_see_6 rfl (lv_at hl 3 rfl) ?_
  by_cases hpq : (0 ≤ p1.toInt ∧ p1.toInt < (q 0 1).toInt)
  · refine sG_seeA (rest := [.int 0, .ref qo]) ⟨hx, hb, hml, hown, hts⟩ (cwV 3 hts (gInV gTL_good (gTL_11 649 (by decide +kernel)) 66 67 68 2 (by decide +kernel) (by decide +kernel) (by decide +kernel) (by decide +kernel)) rfl rfl rfl (by decide +kernel) ⟨(Nat.le_of_ble_eq_true rfl), (Nat.le_of_ble_eq_true rfl)⟩) hI  hK hP hD hS hA hl.1 (Nat.le_of_ble_eq_true rfl) dL_see_7 ⟨(Nat.le_of_ble_eq_true rfl), (Nat.le_of_ble_eq_true rfl)⟩ p1 p2 p3 hpq (fun r w1 H1 locs1 hI1 hP1 hD1 hS1 => ?_)
    refine lv_i2l hx hb dL_see_10 rfl ?_
    refine va_last (n := 1) (f := fo) hx hb hK (pc_ hP1) (dc_ hD1) hS1 0 3 rfl rfl (show ¬ ((0 : Int32) < 0 ∨ 1 ≤ (0 : Int32).toNatClampNeg) by decide) dL_see_11 (fun H2 locs2 hP2 hD2 hS2 => ?_)
    have hP2 : va_P D vwCl ([oc ct qo (vp_updL fo (0 : Int32).toNatClampNeg r.toInt64)] ++ w1) H2 := hP2
    have hD2 : va_D A ([oc ct qo (vp_updL fo (0 : Int32).toNatClampNeg r.toInt64)] ++ w1) := hD2
    refine lv_goto (tgt := 19) hx hb dL_see_12 (by decide) ?_
    refine lv_iconst (v := 0) hx hb dL_see_19 (by decide) ?_
    exact W.widen (Nat.le_of_ble_eq_true rfl) (Nat.le_of_ble_eq_true rfl) (hE 0 (w1, (vp_updL fo (0 : Int32).toNatClampNeg r.toInt64), o) 20 ls H2 locs2 rfl ⟨(fun c9 r9 q9 hx9 => (hI1 c9 r9 q9 hx9).2.2), rfl⟩ (pc_ hP2) (dc_ hD2) hS2 dL_see_20)
  · have hpx : (p1.toInt < 0 ∨ (q 0 1).toInt ≤ p1.toInt) := by omega
    refine sG_seeX (rest := [.int 0, .ref qo]) ⟨hx, hb, hml, hown, hts⟩ (cwV 3 hts (gInV gTL_good (gTL_11 649 (by decide +kernel)) 66 67 68 2 (by decide +kernel) (by decide +kernel) (by decide +kernel) (by decide +kernel)) rfl rfl rfl (by decide +kernel) ⟨(Nat.le_of_ble_eq_true rfl), (Nat.le_of_ble_eq_true rfl)⟩) hI hX.1 hst hK hP hD hS hA hl.1 (Nat.le_of_ble_eq_true rfl) dL_see_7 ⟨(Nat.le_of_ble_eq_true rfl), (Nat.le_of_ble_eq_true rfl)⟩ p1 p2 p3 hpx (fun E ce q9 H1 locs1 hE9 h9 hv9 hcl hP1 hD1 hS1 => ?_) (fun r w1 H1 locs1 hF9 hP1 hD1 hS1 => ?_)
    · have hE9 := List.mem_singleton.mp hE9
      subst hE9
      refine vx_catch (own := RL) (name := xN) hown [] ⟨0, 12, 15, 18⟩ [] hT (fun z hz => by cases hz) (by decide) (by decide) (hts _ (inT 1 (by decide +kernel))) (hX.1.2.2.2.2.1.use rfl) h9 hv9 hcl ?_
      refine lv_astore hx hb dL_see_15 hl (by decide) rfl (fun ls hl => ?_)
      refine lv_iconst (v := 1) hx hb dL_see_17 (by decide) ?_
      exact W.widen (Nat.le_of_ble_eq_true rfl) (Nat.le_of_ble_eq_true rfl) (hE 1 (wg, fo, o) 18 ls H1 locs1 rfl ⟨(fun c9 r9 q9 hx9 => (GX_see hI hpx hx9).2), rfl⟩ hP1 hD1 hS1 dL_see_18)
    · exact False.elim hF9
set_option maxHeartbeats 4000000 in
set_option maxRecDepth 100000 in
theorem w_old (l : Launch) (hst : l.stackTraces = false) (D : va_G) (ct : Nat → ClassId) (ad sw : Nat → Nat) (wa a0 qo sz : Nat) (o : OB) (q : OS) (wg : va_W) (fo : Nat → Int64) (p1 : Int32) (hI : GI ct ad a0 o q wg) : eI (EL ad sw wa) l yL_old wwL_old rmW D ct (wg ++ [oc ct qo fo]) sz [.ref a0, .int p1, .ref qo] (fun (k9 : Int32) (u : va_W × (Nat → Int64) × OB) => GI ct ad a0 u.2.2 q u.1 ∧ u.2.2 = o) (fun u : va_W × (Nat → Int64) × OB => u.1 ++ [oc ct qo u.2.1]) := by
  refine eIH_of (cc := cL_old) (maxL := 4) (hh := [(0, 9, 12, 18)]) (by decide) rfl (Nat.le_of_ble_eq_true rfl) ?_
  intro p e s m args below meth c Q A hx hb hml hts hown hK hP hD hA hX hT hE ls hl
  have hS : va_S A s.heap s.heap [] := va_S.rf
  have hl : lv_has ls 4 [(0, .ref a0), (1, .int p1), (2, .ref qo)] := hl
  refine lv_aload_n hx hb dL_old_0 rfl (lv_at hl 2 rfl) ?_
  refine lv_iconst (v := 0) hx hb dL_old_1 (by decide) ?_
  refine lv_aload_n hx hb dL_old_2 rfl (lv_at hl 0 rfl) ?_
  refine lv_iload_n hx hb dL_old_3 rfl (lv_at hl 1 rfl) ?_
  refine sG_old (rest := [.int 0, .ref qo]) ⟨hx, hb, hml, hown, hts⟩ (cwV 1 hts (gInV gTL_good (gTL_11 675 (by decide +kernel)) 69 70 71 2 (by decide +kernel) (by decide +kernel) (by decide +kernel) (by decide +kernel)) rfl rfl rfl (by decide +kernel) ⟨(Nat.le_of_ble_eq_true rfl), (Nat.le_of_ble_eq_true rfl)⟩) hI hX.1 hst hK hP hD hS hA hl.1 (Nat.le_of_ble_eq_true rfl) dL_old_4 ⟨(Nat.le_of_ble_eq_true rfl), (Nat.le_of_ble_eq_true rfl)⟩ p1 (fun E ce q9 H1 locs1 hE9 h9 hv9 hcl hP1 hD1 hS1 => ?_) (fun r w1 H1 locs1 hI1 hP1 hD1 hS1 => ?_)
  · have hE9 := List.mem_singleton.mp hE9
    subst hE9
    refine vx_catch (own := RL) (name := xN) hown [] ⟨0, 9, 12, 18⟩ [] hT (fun z hz => by cases hz) (by decide) (by decide) (hts _ (inT 1 (by decide +kernel))) (hX.1.2.2.2.2.1.use rfl) h9 hv9 hcl ?_
    refine lv_astore_n hx hb dL_old_12 rfl hl (by decide) rfl (fun ls hl => ?_)
    refine lv_iconst (v := 1) hx hb dL_old_13 (by decide) ?_
    exact W.widen (Nat.le_of_ble_eq_true rfl) (Nat.le_of_ble_eq_true rfl) (hE 1 (wg, fo, o) 14 ls H1 locs1 rfl ⟨hI, rfl⟩ hP1 hD1 hS1 dL_old_14)
  · refine lv_i2l hx hb dL_old_7 rfl ?_
    refine va_last (n := 1) (f := fo) hx hb hK (pc_ hP1) (dc_ hD1) hS1 0 3 rfl rfl (show ¬ ((0 : Int32) < 0 ∨ 1 ≤ (0 : Int32).toNatClampNeg) by decide) dL_old_8 (fun H2 locs2 hP2 hD2 hS2 => ?_)
    have hP2 : va_P D vwCl ([oc ct qo (vp_updL fo (0 : Int32).toNatClampNeg r.toInt64)] ++ w1) H2 := hP2
    have hD2 : va_D A ([oc ct qo (vp_updL fo (0 : Int32).toNatClampNeg r.toInt64)] ++ w1) := hD2
    refine lv_goto (tgt := 15) hx hb dL_old_9 (by decide) ?_
    refine lv_iconst (v := 0) hx hb dL_old_15 (by decide) ?_
    exact W.widen (Nat.le_of_ble_eq_true rfl) (Nat.le_of_ble_eq_true rfl) (hE 0 (w1, (vp_updL fo (0 : Int32).toNatClampNeg r.toInt64), o) 16 ls H2 locs2 rfl ⟨hI1, rfl⟩ (pc_ hP2) (dc_ hD2) hS2 dL_old_16)
set_option maxHeartbeats 4000000 in
set_option maxRecDepth 100000 in
theorem w_look (l : Launch) (hst : l.stackTraces = false) (D : va_G) (ct : Nat → ClassId) (ad sw : Nat → Nat) (wa a0 qo sz : Nat) (o : OB) (q : OS) (wg : va_W) (fo : Nat → Int64) (p1 : Int32) (hI : GI ct ad a0 o q wg) : eI (EL ad sw wa) l yL_look wwL_look rmW D ct (wg ++ [oc ct qo fo]) sz [.ref a0, .int p1, .ref qo] (fun (k9 : Int32) (u : va_W × (Nat → Int64) × OB) => GI ct ad a0 u.2.2 q u.1 ∧ u.2.2 = o) (fun u : va_W × (Nat → Int64) × OB => u.1 ++ [oc ct qo u.2.1]) := by
  refine eIH_of (cc := cL_look) (maxL := 4) (hh := [(0, 9, 12, 18)]) (by decide) rfl (Nat.le_of_ble_eq_true rfl) ?_
  intro p e s m args below meth c Q A hx hb hml hts hown hK hP hD hA hX hT hE ls hl
  have hS : va_S A s.heap s.heap [] := va_S.rf
  have hl : lv_has ls 4 [(0, .ref a0), (1, .int p1), (2, .ref qo)] := hl
  refine lv_aload_n hx hb dL_look_0 rfl (lv_at hl 2 rfl) ?_
  refine lv_iconst (v := 0) hx hb dL_look_1 (by decide) ?_
  refine lv_aload_n hx hb dL_look_2 rfl (lv_at hl 0 rfl) ?_
  refine lv_iload_n hx hb dL_look_3 rfl (lv_at hl 1 rfl) ?_
  refine sG_look (rest := [.int 0, .ref qo]) ⟨hx, hb, hml, hown, hts⟩ (cwV 1 hts (gInV gTL_good (gTL_11 680 (by decide +kernel)) 72 73 74 2 (by decide +kernel) (by decide +kernel) (by decide +kernel) (by decide +kernel)) rfl rfl rfl (by decide +kernel) ⟨(Nat.le_of_ble_eq_true rfl), (Nat.le_of_ble_eq_true rfl)⟩) hI hX.1 hst hK hP hD hS hA hl.1 (Nat.le_of_ble_eq_true rfl) dL_look_4 ⟨(Nat.le_of_ble_eq_true rfl), (Nat.le_of_ble_eq_true rfl)⟩ p1 (fun E ce q9 H1 locs1 hE9 h9 hv9 hcl hP1 hD1 hS1 => ?_) (fun r w1 H1 locs1 hI1 hP1 hD1 hS1 => ?_)
  · have hE9 := List.mem_singleton.mp hE9
    subst hE9
    refine vx_catch (own := RL) (name := xN) hown [] ⟨0, 9, 12, 18⟩ [] hT (fun z hz => by cases hz) (by decide) (by decide) (hts _ (inT 1 (by decide +kernel))) (hX.1.2.2.2.2.1.use rfl) h9 hv9 hcl ?_
    refine lv_astore_n hx hb dL_look_12 rfl hl (by decide) rfl (fun ls hl => ?_)
    refine lv_iconst (v := 1) hx hb dL_look_13 (by decide) ?_
    exact W.widen (Nat.le_of_ble_eq_true rfl) (Nat.le_of_ble_eq_true rfl) (hE 1 (wg, fo, o) 14 ls H1 locs1 rfl ⟨hI, rfl⟩ hP1 hD1 hS1 dL_look_14)
  · refine lv_i2l hx hb dL_look_7 rfl ?_
    refine va_last (n := 1) (f := fo) hx hb hK (pc_ hP1) (dc_ hD1) hS1 0 3 rfl rfl (show ¬ ((0 : Int32) < 0 ∨ 1 ≤ (0 : Int32).toNatClampNeg) by decide) dL_look_8 (fun H2 locs2 hP2 hD2 hS2 => ?_)
    have hP2 : va_P D vwCl ([oc ct qo (vp_updL fo (0 : Int32).toNatClampNeg r.toInt64)] ++ w1) H2 := hP2
    have hD2 : va_D A ([oc ct qo (vp_updL fo (0 : Int32).toNatClampNeg r.toInt64)] ++ w1) := hD2
    refine lv_goto (tgt := 15) hx hb dL_look_9 (by decide) ?_
    refine lv_iconst (v := 0) hx hb dL_look_15 (by decide) ?_
    exact W.widen (Nat.le_of_ble_eq_true rfl) (Nat.le_of_ble_eq_true rfl) (hE 0 (w1, (vp_updL fo (0 : Int32).toNatClampNeg r.toInt64), o) 16 ls H2 locs2 rfl ⟨hI1, rfl⟩ (pc_ hP2) (dc_ hD2) hS2 dL_look_16)
set_option maxHeartbeats 4000000 in
set_option maxRecDepth 100000 in
theorem w_wet (l : Launch) (hst : l.stackTraces = false) (D : va_G) (ct : Nat → ClassId) (ad sw : Nat → Nat) (wa a0 qo sz : Nat) (o : OB) (q : OS) (wg : va_W) (fo : Nat → Int64) (p1 p2 p3 : Int32) (hI : GI ct ad a0 o q wg) : eI (EL ad sw wa) l yL_wet wwL_wet rmW D ct (wg ++ [oc ct qo fo]) sz [.ref a0, .int p1, .int p2, .int p3, .ref qo] (fun (k9 : Int32) (u : va_W × (Nat → Int64) × OB) => GI ct ad a0 u.2.2 q u.1 ∧ u.2.2 = o) (fun u : va_W × (Nat → Int64) × OB => u.1 ++ [oc ct qo u.2.1]) := by
  refine eIH_of (cc := cL_wet) (maxL := 6) (hh := [(0, 12, 15, 18), (0, 12, 19, 13)]) (by decide) rfl (Nat.le_of_ble_eq_true rfl) ?_
  intro p e s m args below meth c Q A hx hb hml hts hown hK hP hD hA hX hT hE ls hl
  have hS : va_S A s.heap s.heap [] := va_S.rf
  have hl : lv_has ls 6 [(0, .ref a0), (1, .int p1), (2, .int p2), (3, .int p3), (4, .ref qo)] := hl
  refine lv_aload hx hb dL_wet_0 (lv_at hl 4 rfl) ?_
  refine lv_iconst (v := 0) hx hb dL_wet_2 (by decide) ?_
  refine lv_aload_n hx hb dL_wet_3 rfl (lv_at hl 0 rfl) ?_
  refine lv_iload_n hx hb dL_wet_4 rfl (lv_at hl 1 rfl) ?_
  refine lv_iload_n hx hb dL_wet_5 rfl (lv_at hl 2 rfl) ?_
  refine lv_iload_n hx hb dL_wet_6 rfl (lv_at hl 3 rfl) ?_
  refine sG_wet (rest := [.int 0, .ref qo]) ⟨hx, hb, hml, hown, hts⟩ (cwV 3 hts (gInV gTL_good (gTL_11 692 (by decide +kernel)) 75 76 77 2 (by decide +kernel) (by decide +kernel) (by decide +kernel) (by decide +kernel)) rfl rfl rfl (by decide +kernel) ⟨(Nat.le_of_ble_eq_true rfl), (Nat.le_of_ble_eq_true rfl)⟩) hI hX.1 hst hK hP hD hS hA hl.1 (Nat.le_of_ble_eq_true rfl) dL_wet_7 ⟨(Nat.le_of_ble_eq_true rfl), (Nat.le_of_ble_eq_true rfl)⟩ p1 p2 p3 (fun E ce q9 H1 locs1 hE9 h9 hv9 hcl hP1 hD1 hS1 => ?_) (fun r w1 H1 locs1 hI1 hP1 hD1 hS1 => ?_)
  · rcases List.mem_cons.mp hE9 with hE9 | hE9
    · subst hE9
      refine vx_catch (own := RL) (name := xN) hown [] ⟨0, 12, 15, 18⟩ [⟨0, 12, 19, 13⟩] hT (fun z hz => by cases hz) (by decide) (by decide) (hts _ (inT 1 (by decide +kernel))) (hX.1.2.2.2.2.1.use rfl) h9 hv9 hcl ?_
      refine lv_astore hx hb dL_wet_15 hl (by decide) rfl (fun ls hl => ?_)
      refine lv_iconst (v := 1) hx hb dL_wet_17 (by decide) ?_
      exact W.widen (Nat.le_of_ble_eq_true rfl) (Nat.le_of_ble_eq_true rfl) (hE 1 (wg, fo, o) 18 ls H1 locs1 rfl ⟨hI, rfl⟩ hP1 hD1 hS1 dL_wet_18)
    · have hE9 := List.mem_singleton.mp hE9
      subst hE9
      refine vx_catch (own := RL) (name := xI) hown [⟨0, 12, 15, 18⟩] ⟨0, 12, 19, 13⟩ [] hT (fun z hz => Or.inr (by rw [List.mem_singleton.mp hz]; exact ⟨by decide, xN, hts _ (inT 1 (by decide +kernel)), hX.2.2⟩)) (by decide) (by decide) (hts _ (inT 0 (by decide +kernel))) (hX.1.2.2.2.1.use rfl) h9 hv9 hcl ?_
      refine lv_astore hx hb dL_wet_19 hl (by decide) rfl (fun ls hl => ?_)
      refine lv_iconst (v := 2) hx hb dL_wet_21 (by decide) ?_
      exact W.widen (Nat.le_of_ble_eq_true rfl) (Nat.le_of_ble_eq_true rfl) (hE 2 (wg, fo, o) 22 ls H1 locs1 rfl ⟨hI, rfl⟩ hP1 hD1 hS1 dL_wet_22)
  · refine lv_i2l hx hb dL_wet_10 rfl ?_
    refine va_last (n := 1) (f := fo) hx hb hK (pc_ hP1) (dc_ hD1) hS1 0 3 rfl rfl (show ¬ ((0 : Int32) < 0 ∨ 1 ≤ (0 : Int32).toNatClampNeg) by decide) dL_wet_11 (fun H2 locs2 hP2 hD2 hS2 => ?_)
    have hP2 : va_P D vwCl ([oc ct qo (vp_updL fo (0 : Int32).toNatClampNeg r.toInt64)] ++ w1) H2 := hP2
    have hD2 : va_D A ([oc ct qo (vp_updL fo (0 : Int32).toNatClampNeg r.toInt64)] ++ w1) := hD2
    refine lv_goto (tgt := 23) hx hb dL_wet_12 (by decide) ?_
    refine lv_iconst (v := 0) hx hb dL_wet_23 (by decide) ?_
    exact W.widen (Nat.le_of_ble_eq_true rfl) (Nat.le_of_ble_eq_true rfl) (hE 0 (w1, (vp_updL fo (0 : Int32).toNatClampNeg r.toInt64), o) 24 ls H2 locs2 rfl ⟨hI1, rfl⟩ (pc_ hP2) (dc_ hD2) hS2 dL_wet_24)
set_option maxHeartbeats 4000000 in
set_option maxRecDepth 100000 in
theorem w_game (l : Launch) (hst : l.stackTraces = false) (D : va_G) (ct : Nat → ClassId) (ad sw : Nat → Nat) (wa a0 qo sz : Nat) (o : OB) (q : OS) (wg : va_W) (fo : Nat → Int64) (p1 p2 p3 : Int32) (hI : GI ct ad a0 o q wg) : eI (EL ad sw wa) l yL_game wwL_game rmW D ct (wg ++ [oc ct qo fo]) sz [.ref a0, .int p1, .int p2, .int p3, .ref qo] (fun (k9 : Int32) (u : va_W × (Nat → Int64) × OB) => GI ct ad a0 u.2.2 q u.1 ∧ u.2.2 = o) (fun u : va_W × (Nat → Int64) × OB => u.1 ++ [oc ct qo u.2.1]) := by
  refine eIH_of (cc := cL_game) (maxL := 6) (hh := [(0, 12, 15, 18), (0, 12, 19, 13)]) (by decide) rfl (Nat.le_of_ble_eq_true rfl) ?_
  intro p e s m args below meth c Q A hx hb hml hts hown hK hP hD hA hX hT hE ls hl
  have hS : va_S A s.heap s.heap [] := va_S.rf
  have hl : lv_has ls 6 [(0, .ref a0), (1, .int p1), (2, .int p2), (3, .int p3), (4, .ref qo)] := hl
  refine lv_aload hx hb dL_game_0 (lv_at hl 4 rfl) ?_
  refine lv_iconst (v := 0) hx hb dL_game_2 (by decide) ?_
  refine lv_aload_n hx hb dL_game_3 rfl (lv_at hl 0 rfl) ?_
  refine lv_iload_n hx hb dL_game_4 rfl (lv_at hl 1 rfl) ?_
  refine lv_iload_n hx hb dL_game_5 rfl (lv_at hl 2 rfl) ?_
  refine lv_iload_n hx hb dL_game_6 rfl (lv_at hl 3 rfl) ?_
  refine sG_game (rest := [.int 0, .ref qo]) ⟨hx, hb, hml, hown, hts⟩ (cwV 3 hts (gInV gTL_good (gTL_11 711 (by decide +kernel)) 78 79 80 2 (by decide +kernel) (by decide +kernel) (by decide +kernel) (by decide +kernel)) rfl rfl rfl (by decide +kernel) ⟨(Nat.le_of_ble_eq_true rfl), (Nat.le_of_ble_eq_true rfl)⟩) hI hX.1 hst hK hP hD hS hA hl.1 (Nat.le_of_ble_eq_true rfl) dL_game_7 ⟨(Nat.le_of_ble_eq_true rfl), (Nat.le_of_ble_eq_true rfl)⟩ p1 p2 p3 (fun E ce q9 H1 locs1 hE9 h9 hv9 hcl hP1 hD1 hS1 => ?_) (fun r w1 H1 locs1 hI1 hP1 hD1 hS1 => ?_)
  · rcases List.mem_cons.mp hE9 with hE9 | hE9
    · subst hE9
      refine vx_catch (own := RL) (name := xN) hown [] ⟨0, 12, 15, 18⟩ [⟨0, 12, 19, 13⟩] hT (fun z hz => by cases hz) (by decide) (by decide) (hts _ (inT 1 (by decide +kernel))) (hX.1.2.2.2.2.1.use rfl) h9 hv9 hcl ?_
      refine lv_astore hx hb dL_game_15 hl (by decide) rfl (fun ls hl => ?_)
      refine lv_iconst (v := 1) hx hb dL_game_17 (by decide) ?_
      exact W.widen (Nat.le_of_ble_eq_true rfl) (Nat.le_of_ble_eq_true rfl) (hE 1 (wg, fo, o) 18 ls H1 locs1 rfl ⟨hI, rfl⟩ hP1 hD1 hS1 dL_game_18)
    · have hE9 := List.mem_singleton.mp hE9
      subst hE9
      refine vx_catch (own := RL) (name := xI) hown [⟨0, 12, 15, 18⟩] ⟨0, 12, 19, 13⟩ [] hT (fun z hz => Or.inr (by rw [List.mem_singleton.mp hz]; exact ⟨by decide, xN, hts _ (inT 1 (by decide +kernel)), hX.2.2⟩)) (by decide) (by decide) (hts _ (inT 0 (by decide +kernel))) (hX.1.2.2.2.1.use rfl) h9 hv9 hcl ?_
      refine lv_astore hx hb dL_game_19 hl (by decide) rfl (fun ls hl => ?_)
      refine lv_iconst (v := 2) hx hb dL_game_21 (by decide) ?_
      exact W.widen (Nat.le_of_ble_eq_true rfl) (Nat.le_of_ble_eq_true rfl) (hE 2 (wg, fo, o) 22 ls H1 locs1 rfl ⟨hI, rfl⟩ hP1 hD1 hS1 dL_game_22)
  · refine lv_i2l hx hb dL_game_10 rfl ?_
    refine va_last (n := 1) (f := fo) hx hb hK (pc_ hP1) (dc_ hD1) hS1 0 3 rfl rfl (show ¬ ((0 : Int32) < 0 ∨ 1 ≤ (0 : Int32).toNatClampNeg) by decide) dL_game_11 (fun H2 locs2 hP2 hD2 hS2 => ?_)
    have hP2 : va_P D vwCl ([oc ct qo (vp_updL fo (0 : Int32).toNatClampNeg r.toInt64)] ++ w1) H2 := hP2
    have hD2 : va_D A ([oc ct qo (vp_updL fo (0 : Int32).toNatClampNeg r.toInt64)] ++ w1) := hD2
    refine lv_goto (tgt := 23) hx hb dL_game_12 (by decide) ?_
    refine lv_iconst (v := 0) hx hb dL_game_23 (by decide) ?_
    exact W.widen (Nat.le_of_ble_eq_true rfl) (Nat.le_of_ble_eq_true rfl) (hE 0 (w1, (vp_updL fo (0 : Int32).toNatClampNeg r.toInt64), o) 24 ls H2 locs2 rfl ⟨hI1, rfl⟩ (pc_ hP2) (dc_ hD2) hS2 dL_game_24)
set_option maxHeartbeats 4000000 in
set_option maxRecDepth 100000 in
theorem w_ages (l : Launch) (hst : l.stackTraces = false) (D : va_G) (ct : Nat → ClassId) (ad sw : Nat → Nat) (wa a0 qo sz : Nat) (o : OB) (q : OS) (wg : va_W) (fo : Nat → Int64) (p1 p2 p3 : Int32) (hI : GI ct ad a0 o q wg) : eI (EL ad sw wa) l yL_ages wwL_ages rmW D ct (wg ++ [oc ct qo fo]) sz [.ref a0, .int p1, .int p2, .int p3, .ref qo] (fun (k9 : Int32) (u : va_W × (Nat → Int64) × OB) => GI ct ad a0 u.2.2 q u.1 ∧ u.2.2 = o) (fun u : va_W × (Nat → Int64) × OB => u.1 ++ [oc ct qo u.2.1]) := by
  refine eIH_of (cc := cL_ages) (maxL := 6) (hh := [(0, 12, 15, 18), (0, 12, 19, 13)]) (by decide) rfl (Nat.le_of_ble_eq_true rfl) ?_
  intro p e s m args below meth c Q A hx hb hml hts hown hK hP hD hA hX hT hE ls hl
  have hS : va_S A s.heap s.heap [] := va_S.rf
  have hl : lv_has ls 6 [(0, .ref a0), (1, .int p1), (2, .int p2), (3, .int p3), (4, .ref qo)] := hl
  refine lv_aload hx hb dL_ages_0 (lv_at hl 4 rfl) ?_
  refine lv_iconst (v := 0) hx hb dL_ages_2 (by decide) ?_
  refine lv_aload_n hx hb dL_ages_3 rfl (lv_at hl 0 rfl) ?_
  refine lv_iload_n hx hb dL_ages_4 rfl (lv_at hl 1 rfl) ?_
  refine lv_iload_n hx hb dL_ages_5 rfl (lv_at hl 2 rfl) ?_
  refine lv_iload_n hx hb dL_ages_6 rfl (lv_at hl 3 rfl) ?_
  refine sG_ages (rest := [.int 0, .ref qo]) ⟨hx, hb, hml, hown, hts⟩ (cwV 3 hts (gInV gTL_good (gTL_11 718 (by decide +kernel)) 81 82 83 2 (by decide +kernel) (by decide +kernel) (by decide +kernel) (by decide +kernel)) rfl rfl rfl (by decide +kernel) ⟨(Nat.le_of_ble_eq_true rfl), (Nat.le_of_ble_eq_true rfl)⟩) hI hX.1 hst hK hP hD hS hA hl.1 (Nat.le_of_ble_eq_true rfl) dL_ages_7 ⟨(Nat.le_of_ble_eq_true rfl), (Nat.le_of_ble_eq_true rfl)⟩ p1 p2 p3 (fun E ce q9 H1 locs1 hE9 h9 hv9 hcl hP1 hD1 hS1 => ?_) (fun r w1 H1 locs1 hI1 hP1 hD1 hS1 => ?_)
  · rcases List.mem_cons.mp hE9 with hE9 | hE9
    · subst hE9
      refine vx_catch (own := RL) (name := xN) hown [] ⟨0, 12, 15, 18⟩ [⟨0, 12, 19, 13⟩] hT (fun z hz => by cases hz) (by decide) (by decide) (hts _ (inT 1 (by decide +kernel))) (hX.1.2.2.2.2.1.use rfl) h9 hv9 hcl ?_
      refine lv_astore hx hb dL_ages_15 hl (by decide) rfl (fun ls hl => ?_)
      refine lv_iconst (v := 1) hx hb dL_ages_17 (by decide) ?_
      exact W.widen (Nat.le_of_ble_eq_true rfl) (Nat.le_of_ble_eq_true rfl) (hE 1 (wg, fo, o) 18 ls H1 locs1 rfl ⟨hI, rfl⟩ hP1 hD1 hS1 dL_ages_18)
    · have hE9 := List.mem_singleton.mp hE9
      subst hE9
      refine vx_catch (own := RL) (name := xI) hown [⟨0, 12, 15, 18⟩] ⟨0, 12, 19, 13⟩ [] hT (fun z hz => Or.inr (by rw [List.mem_singleton.mp hz]; exact ⟨by decide, xN, hts _ (inT 1 (by decide +kernel)), hX.2.2⟩)) (by decide) (by decide) (hts _ (inT 0 (by decide +kernel))) (hX.1.2.2.2.1.use rfl) h9 hv9 hcl ?_
      refine lv_astore hx hb dL_ages_19 hl (by decide) rfl (fun ls hl => ?_)
      refine lv_iconst (v := 2) hx hb dL_ages_21 (by decide) ?_
      exact W.widen (Nat.le_of_ble_eq_true rfl) (Nat.le_of_ble_eq_true rfl) (hE 2 (wg, fo, o) 22 ls H1 locs1 rfl ⟨hI, rfl⟩ hP1 hD1 hS1 dL_ages_22)
  · refine lv_i2l hx hb dL_ages_10 rfl ?_
    refine va_last (n := 1) (f := fo) hx hb hK (pc_ hP1) (dc_ hD1) hS1 0 3 rfl rfl (show ¬ ((0 : Int32) < 0 ∨ 1 ≤ (0 : Int32).toNatClampNeg) by decide) dL_ages_11 (fun H2 locs2 hP2 hD2 hS2 => ?_)
    have hP2 : va_P D vwCl ([oc ct qo (vp_updL fo (0 : Int32).toNatClampNeg r.toInt64)] ++ w1) H2 := hP2
    have hD2 : va_D A ([oc ct qo (vp_updL fo (0 : Int32).toNatClampNeg r.toInt64)] ++ w1) := hD2
    refine lv_goto (tgt := 23) hx hb dL_ages_12 (by decide) ?_
    refine lv_iconst (v := 0) hx hb dL_ages_23 (by decide) ?_
    exact W.widen (Nat.le_of_ble_eq_true rfl) (Nat.le_of_ble_eq_true rfl) (hE 0 (w1, (vp_updL fo (0 : Int32).toNatClampNeg r.toInt64), o) 24 ls H2 locs2 rfl ⟨hI1, rfl⟩ (pc_ hP2) (dc_ hD2) hS2 dL_ages_24)
