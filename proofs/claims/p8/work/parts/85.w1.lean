set_option maxHeartbeats 4000000 in
set_option maxRecDepth 100000 in
theorem w_where (l : Launch) (hst : l.stackTraces = false) (D : va_G) (ct : Nat → ClassId) (ad sw : Nat → Nat) (wa a0 qo sz : Nat) (o : OB) (q : OS) (wg : va_W) (fo : Nat → Int64) (p1 p2 p3 : Int32) (hI : GI ct ad a0 o q wg) : eI (EL ad sw wa) l yL_where wwL_where rmW D ct (wg ++ [oc ct qo fo]) sz [.ref a0, .int p1, .int p2, .int p3, .ref qo] (fun (k9 : Int32) (u : va_W × (Nat → Int64) × OB) => GI ct ad a0 u.2.2 q u.1 ∧ u.2.2 = o) (fun u : va_W × (Nat → Int64) × OB => u.1 ++ [oc ct qo u.2.1]) := by
  refine eIH_of (cc := cL_where) (maxL := 6) (hh := [(0, 12, 15, 18), (0, 12, 19, 13)]) (by decide) rfl (Nat.le_of_ble_eq_true rfl) ?_
  intro p e s m args below meth c Q A hx hb hml hts hown hK hP hD hA hX hT hE ls hl
  have hS : va_S A s.heap s.heap [] := va_S.rf
  have hl : lv_has ls 6 [(0, .ref a0), (1, .int p1), (2, .int p2), (3, .int p3), (4, .ref qo)] := hl
  refine lv_aload hx hb dL_where_0 (lv_at hl 4 rfl) ?_
  refine lv_iconst (v := 0) hx hb dL_where_2 (by decide) ?_
  refine lv_aload_n hx hb dL_where_3 rfl (lv_at hl 0 rfl) ?_
  refine lv_iload_n hx hb dL_where_4 rfl (lv_at hl 1 rfl) ?_
  refine lv_iload_n hx hb dL_where_5 rfl (lv_at hl 2 rfl) ?_
  refine lv_iload_n hx hb dL_where_6 rfl (lv_at hl 3 rfl) ?_
  refine sG_where (rest := [.int 0, .ref qo]) ⟨hx, hb, hml, hown, hts⟩ (cwV 3 hts (gInV gTL_good (gTL_11 578 (by decide +kernel)) 30 31 32 2 (by decide +kernel) (by decide +kernel) (by decide +kernel) (by decide +kernel)) rfl rfl rfl (by decide +kernel) ⟨(Nat.le_of_ble_eq_true rfl), (Nat.le_of_ble_eq_true rfl)⟩) hI hX.1 hst hK hP hD hS hA hl.1 (Nat.le_of_ble_eq_true rfl) dL_where_7 ⟨(Nat.le_of_ble_eq_true rfl), (Nat.le_of_ble_eq_true rfl)⟩ p1 p2 p3 (fun E ce q9 H1 locs1 hE9 h9 hv9 hcl hP1 hD1 hS1 => ?_) (fun r w1 H1 locs1 hI1 hP1 hD1 hS1 => ?_)
  · rcases List.mem_cons.mp hE9 with hE9 | hE9
    · subst hE9
      refine vx_catch (own := RL) (name := xN) hown [] ⟨0, 12, 15, 18⟩ [⟨0, 12, 19, 13⟩] hT (fun z hz => by cases hz) (by decide) (by decide) (hts _ (inT 1 (by decide +kernel))) (hX.1.2.2.2.2.1.use rfl) h9 hv9 hcl ?_
      refine lv_astore hx hb dL_where_15 hl (by decide) rfl (fun ls hl => ?_)
      refine lv_iconst (v := 1) hx hb dL_where_17 (by decide) ?_
      exact W.widen (Nat.le_of_ble_eq_true rfl) (Nat.le_of_ble_eq_true rfl) (hE 1 (wg, fo, o) 18 ls H1 locs1 rfl ⟨hI, rfl⟩ hP1 hD1 hS1 dL_where_18)
    · have hE9 := List.mem_singleton.mp hE9
      subst hE9
      refine vx_catch (own := RL) (name := xI) hown [⟨0, 12, 15, 18⟩] ⟨0, 12, 19, 13⟩ [] hT (fun z hz => Or.inr (by rw [List.mem_singleton.mp hz]; exact ⟨by decide, xN, hts _ (inT 1 (by decide +kernel)), hX.2.2⟩)) (by decide) (by decide) (hts _ (inT 0 (by decide +kernel))) (hX.1.2.2.2.1.use rfl) h9 hv9 hcl ?_
      refine lv_astore hx hb dL_where_19 hl (by decide) rfl (fun ls hl => ?_)
      refine lv_iconst (v := 2) hx hb dL_where_21 (by decide) ?_
      exact W.widen (Nat.le_of_ble_eq_true rfl) (Nat.le_of_ble_eq_true rfl) (hE 2 (wg, fo, o) 22 ls H1 locs1 rfl ⟨hI, rfl⟩ hP1 hD1 hS1 dL_where_22)
  · refine lv_i2l hx hb dL_where_10 rfl ?_
    refine va_last (n := 1) (f := fo) hx hb hK (pc_ hP1) (dc_ hD1) hS1 0 3 rfl rfl (show ¬ ((0 : Int32) < 0 ∨ 1 ≤ (0 : Int32).toNatClampNeg) by decide) dL_where_11 (fun H2 locs2 hP2 hD2 hS2 => ?_)
    have hP2 : va_P D vwCl ([oc ct qo (vp_updL fo (0 : Int32).toNatClampNeg r.toInt64)] ++ w1) H2 := hP2
    have hD2 : va_D A ([oc ct qo (vp_updL fo (0 : Int32).toNatClampNeg r.toInt64)] ++ w1) := hD2
    refine lv_goto (tgt := 23) hx hb dL_where_12 (by decide) ?_
    refine lv_iconst (v := 0) hx hb dL_where_23 (by decide) ?_
    exact W.widen (Nat.le_of_ble_eq_true rfl) (Nat.le_of_ble_eq_true rfl) (hE 0 (w1, (vp_updL fo (0 : Int32).toNatClampNeg r.toInt64), o) 24 ls H2 locs2 rfl ⟨hI1, rfl⟩ (pc_ hP2) (dc_ hD2) hS2 dL_where_24)
set_option maxHeartbeats 4000000 in
set_option maxRecDepth 100000 in
theorem w_loaf (l : Launch) (hst : l.stackTraces = false) (D : va_G) (ct : Nat → ClassId) (ad sw : Nat → Nat) (wa a0 qo sz : Nat) (o : OB) (q : OS) (wg : va_W) (fo : Nat → Int64) (p1 : Int32) (hI : GI ct ad a0 o q wg) : eI (EL ad sw wa) l yL_loaf wwL_loaf rmW D ct (wg ++ [oc ct qo fo]) sz [.ref a0, .int p1, .ref qo] (fun (k9 : Int32) (u : va_W × (Nat → Int64) × OB) => GI ct ad a0 u.2.2 q u.1 ∧ u.2.2 = o) (fun u : va_W × (Nat → Int64) × OB => u.1 ++ [oc ct qo u.2.1]) := by
  refine eIH_of (cc := cL_loaf) (maxL := 4) (hh := [(0, 9, 12, 18)]) (by decide) rfl (Nat.le_of_ble_eq_true rfl) ?_
  intro p e s m args below meth c Q A hx hb hml hts hown hK hP hD hA hX hT hE ls hl
  have hS : va_S A s.heap s.heap [] := va_S.rf
  have hl : lv_has ls 4 [(0, .ref a0), (1, .int p1), (2, .ref qo)] := hl
  refine lv_aload_n hx hb dL_loaf_0 rfl (lv_at hl 2 rfl) ?_
  refine lv_iconst (v := 0) hx hb dL_loaf_1 (by decide) ?_
  refine lv_aload_n hx hb dL_loaf_2 rfl (lv_at hl 0 rfl) ?_
  refine lv_iload_n hx hb dL_loaf_3 rfl (lv_at hl 1 rfl) ?_
  refine sG_loaf (rest := [.int 0, .ref qo]) ⟨hx, hb, hml, hown, hts⟩ (cwV 1 hts (gInV gTL_good (gTL_11 581 (by decide +kernel)) 33 34 35 2 (by decide +kernel) (by decide +kernel) (by decide +kernel) (by decide +kernel)) rfl rfl rfl (by decide +kernel) ⟨(Nat.le_of_ble_eq_true rfl), (Nat.le_of_ble_eq_true rfl)⟩) hI hX.1 hst hK hP hD hS hA hl.1 (Nat.le_of_ble_eq_true rfl) dL_loaf_4 ⟨(Nat.le_of_ble_eq_true rfl), (Nat.le_of_ble_eq_true rfl)⟩ p1 (fun E ce q9 H1 locs1 hE9 h9 hv9 hcl hP1 hD1 hS1 => ?_) (fun r w1 H1 locs1 hI1 hP1 hD1 hS1 => ?_)
  · have hE9 := List.mem_singleton.mp hE9
    subst hE9
    refine vx_catch (own := RL) (name := xN) hown [] ⟨0, 9, 12, 18⟩ [] hT (fun z hz => by cases hz) (by decide) (by decide) (hts _ (inT 1 (by decide +kernel))) (hX.1.2.2.2.2.1.use rfl) h9 hv9 hcl ?_
    refine lv_astore_n hx hb dL_loaf_12 rfl hl (by decide) rfl (fun ls hl => ?_)
    refine lv_iconst (v := 1) hx hb dL_loaf_13 (by decide) ?_
    exact W.widen (Nat.le_of_ble_eq_true rfl) (Nat.le_of_ble_eq_true rfl) (hE 1 (wg, fo, o) 14 ls H1 locs1 rfl ⟨hI, rfl⟩ hP1 hD1 hS1 dL_loaf_14)
  · refine lv_i2l hx hb dL_loaf_7 rfl ?_
    refine va_last (n := 1) (f := fo) hx hb hK (pc_ hP1) (dc_ hD1) hS1 0 3 rfl rfl (show ¬ ((0 : Int32) < 0 ∨ 1 ≤ (0 : Int32).toNatClampNeg) by decide) dL_loaf_8 (fun H2 locs2 hP2 hD2 hS2 => ?_)
    have hP2 : va_P D vwCl ([oc ct qo (vp_updL fo (0 : Int32).toNatClampNeg r.toInt64)] ++ w1) H2 := hP2
    have hD2 : va_D A ([oc ct qo (vp_updL fo (0 : Int32).toNatClampNeg r.toInt64)] ++ w1) := hD2
    refine lv_goto (tgt := 15) hx hb dL_loaf_9 (by decide) ?_
    refine lv_iconst (v := 0) hx hb dL_loaf_15 (by decide) ?_
    exact W.widen (Nat.le_of_ble_eq_true rfl) (Nat.le_of_ble_eq_true rfl) (hE 0 (w1, (vp_updL fo (0 : Int32).toNatClampNeg r.toInt64), o) 16 ls H2 locs2 rfl ⟨hI1, rfl⟩ (pc_ hP2) (dc_ hD2) hS2 dL_loaf_16)
set_option maxHeartbeats 4000000 in
set_option maxRecDepth 100000 in
theorem w_later (l : Launch) (hst : l.stackTraces = false) (D : va_G) (ct : Nat → ClassId) (ad sw : Nat → Nat) (wa a0 qo sz : Nat) (o : OB) (q : OS) (wg : va_W) (fo : Nat → Int64) (p1 p2 : Int32) (hI : GI ct ad a0 o q wg) : eI (EL ad sw wa) l yL_later wwL_later rmW D ct (wg ++ [oc ct qo fo]) sz [.ref a0, .int p1, .int p2, .ref qo] (fun (k9 : Int32) (u : va_W × (Nat → Int64) × OB) => GI ct ad a0 u.2.2 q u.1 ∧ u.2.2 = o) (fun u : va_W × (Nat → Int64) × OB => u.1 ++ [oc ct qo u.2.1]) := by
  refine eIH_of (cc := cL_later) (maxL := 5) (hh := [(0, 10, 13, 18), (0, 10, 17, 13)]) (by decide) rfl (Nat.le_of_ble_eq_true rfl) ?_
  intro p e s m args below meth c Q A hx hb hml hts hown hK hP hD hA hX hT hE ls hl
  have hS : va_S A s.heap s.heap [] := va_S.rf
  have hl : lv_has ls 5 [(0, .ref a0), (1, .int p1), (2, .int p2), (3, .ref qo)] := hl
  refine lv_aload_n hx hb dL_later_0 rfl (lv_at hl 3 rfl) ?_
  refine lv_iconst (v := 0) hx hb dL_later_1 (by decide) ?_
  refine lv_aload_n hx hb dL_later_2 rfl (lv_at hl 0 rfl) ?_
  refine lv_iload_n hx hb dL_later_3 rfl (lv_at hl 1 rfl) ?_
  refine lv_iload_n hx hb dL_later_4 rfl (lv_at hl 2 rfl) ?_
  refine sG_later (rest := [.int 0, .ref qo]) ⟨hx, hb, hml, hown, hts⟩ (cwV 2 hts (gInV gTL_good (gTL_11 586 (by decide +kernel)) 36 37 38 2 (by decide +kernel) (by decide +kernel) (by decide +kernel) (by decide +kernel)) rfl rfl rfl (by decide +kernel) ⟨(Nat.le_of_ble_eq_true rfl), (Nat.le_of_ble_eq_true rfl)⟩) hI hX.1 hst hK hP hD hS hA hl.1 (Nat.le_of_ble_eq_true rfl) dL_later_5 ⟨(Nat.le_of_ble_eq_true rfl), (Nat.le_of_ble_eq_true rfl)⟩ p1 p2 (fun E ce q9 H1 locs1 hE9 h9 hv9 hcl hP1 hD1 hS1 => ?_) (fun r w1 H1 locs1 hI1 hP1 hD1 hS1 => ?_)
  · rcases List.mem_cons.mp hE9 with hE9 | hE9
    · subst hE9
      refine vx_catch (own := RL) (name := xN) hown [] ⟨0, 10, 13, 18⟩ [⟨0, 10, 17, 13⟩] hT (fun z hz => by cases hz) (by decide) (by decide) (hts _ (inT 1 (by decide +kernel))) (hX.1.2.2.2.2.1.use rfl) h9 hv9 hcl ?_
      refine lv_astore hx hb dL_later_13 hl (by decide) rfl (fun ls hl => ?_)
      refine lv_iconst (v := 1) hx hb dL_later_15 (by decide) ?_
      exact W.widen (Nat.le_of_ble_eq_true rfl) (Nat.le_of_ble_eq_true rfl) (hE 1 (wg, fo, o) 16 ls H1 locs1 rfl ⟨hI, rfl⟩ hP1 hD1 hS1 dL_later_16)
    · have hE9 := List.mem_singleton.mp hE9
      subst hE9
      refine vx_catch (own := RL) (name := xI) hown [⟨0, 10, 13, 18⟩] ⟨0, 10, 17, 13⟩ [] hT (fun z hz => Or.inr (by rw [List.mem_singleton.mp hz]; exact ⟨by decide, xN, hts _ (inT 1 (by decide +kernel)), hX.2.2⟩)) (by decide) (by decide) (hts _ (inT 0 (by decide +kernel))) (hX.1.2.2.2.1.use rfl) h9 hv9 hcl ?_
      refine lv_astore hx hb dL_later_17 hl (by decide) rfl (fun ls hl => ?_)
      refine lv_iconst (v := 2) hx hb dL_later_19 (by decide) ?_
      exact W.widen (Nat.le_of_ble_eq_true rfl) (Nat.le_of_ble_eq_true rfl) (hE 2 (wg, fo, o) 20 ls H1 locs1 rfl ⟨hI, rfl⟩ hP1 hD1 hS1 dL_later_20)
  · refine lv_i2l hx hb dL_later_8 rfl ?_
    refine va_last (n := 1) (f := fo) hx hb hK (pc_ hP1) (dc_ hD1) hS1 0 3 rfl rfl (show ¬ ((0 : Int32) < 0 ∨ 1 ≤ (0 : Int32).toNatClampNeg) by decide) dL_later_9 (fun H2 locs2 hP2 hD2 hS2 => ?_)
    have hP2 : va_P D vwCl ([oc ct qo (vp_updL fo (0 : Int32).toNatClampNeg r.toInt64)] ++ w1) H2 := hP2
    have hD2 : va_D A ([oc ct qo (vp_updL fo (0 : Int32).toNatClampNeg r.toInt64)] ++ w1) := hD2
    refine lv_goto (tgt := 21) hx hb dL_later_10 (by decide) ?_
    refine lv_iconst (v := 0) hx hb dL_later_21 (by decide) ?_
    exact W.widen (Nat.le_of_ble_eq_true rfl) (Nat.le_of_ble_eq_true rfl) (hE 0 (w1, (vp_updL fo (0 : Int32).toNatClampNeg r.toInt64), o) 22 ls H2 locs2 rfl ⟨hI1, rfl⟩ (pc_ hP2) (dc_ hD2) hS2 dL_later_22)
set_option maxHeartbeats 4000000 in
set_option maxRecDepth 100000 in
theorem w_sat (l : Launch) (hst : l.stackTraces = false) (D : va_G) (ct : Nat → ClassId) (ad sw : Nat → Nat) (wa a0 qo sz : Nat) (o : OB) (q : OS) (wg : va_W) (fo : Nat → Int64) (p1 p2 : Int32) (hI : GI ct ad a0 o q wg) : eI (EL ad sw wa) l yL_sat wwL_sat rmW D ct (wg ++ [oc ct qo fo]) sz [.ref a0, .int p1, .int p2, .ref qo] (fun (k9 : Int32) (u : va_W × (Nat → Int64) × OB) => GI ct ad a0 u.2.2 q u.1 ∧ u.2.2 = o) (fun u : va_W × (Nat → Int64) × OB => u.1 ++ [oc ct qo u.2.1]) := by
  refine eIH_of (cc := cL_sat) (maxL := 5) (hh := [(0, 10, 13, 18), (0, 10, 17, 13)]) (by decide) rfl (Nat.le_of_ble_eq_true rfl) ?_
  intro p e s m args below meth c Q A hx hb hml hts hown hK hP hD hA hX hT hE ls hl
  have hS : va_S A s.heap s.heap [] := va_S.rf
  have hl : lv_has ls 5 [(0, .ref a0), (1, .int p1), (2, .int p2), (3, .ref qo)] := hl
  refine lv_aload_n hx hb dL_sat_0 rfl (lv_at hl 3 rfl) ?_
  refine lv_iconst (v := 0) hx hb dL_sat_1 (by decide) ?_
  refine lv_aload_n hx hb dL_sat_2 rfl (lv_at hl 0 rfl) ?_
  refine lv_iload_n hx hb dL_sat_3 rfl (lv_at hl 1 rfl) ?_
  refine lv_iload_n hx hb dL_sat_4 rfl (lv_at hl 2 rfl) ?_
  refine sG_sat (rest := [.int 0, .ref qo]) ⟨hx, hb, hml, hown, hts⟩ (cwV 2 hts (gInV gTL_good (gTL_11 587 (by decide +kernel)) 39 40 41 2 (by decide +kernel) (by decide +kernel) (by decide +kernel) (by decide +kernel)) rfl rfl rfl (by decide +kernel) ⟨(Nat.le_of_ble_eq_true rfl), (Nat.le_of_ble_eq_true rfl)⟩) hI hX.1 hst hK hP hD hS hA hl.1 (Nat.le_of_ble_eq_true rfl) dL_sat_5 ⟨(Nat.le_of_ble_eq_true rfl), (Nat.le_of_ble_eq_true rfl)⟩ p1 p2 (fun E ce q9 H1 locs1 hE9 h9 hv9 hcl hP1 hD1 hS1 => ?_) (fun r w1 H1 locs1 hI1 hP1 hD1 hS1 => ?_)
  · rcases List.mem_cons.mp hE9 with hE9 | hE9
    · subst hE9
      refine vx_catch (own := RL) (name := xN) hown [] ⟨0, 10, 13, 18⟩ [⟨0, 10, 17, 13⟩] hT (fun z hz => by cases hz) (by decide) (by decide) (hts _ (inT 1 (by decide +kernel))) (hX.1.2.2.2.2.1.use rfl) h9 hv9 hcl ?_
      refine lv_astore hx hb dL_sat_13 hl (by decide) rfl (fun ls hl => ?_)
      refine lv_iconst (v := 1) hx hb dL_sat_15 (by decide) ?_
      exact W.widen (Nat.le_of_ble_eq_true rfl) (Nat.le_of_ble_eq_true rfl) (hE 1 (wg, fo, o) 16 ls H1 locs1 rfl ⟨hI, rfl⟩ hP1 hD1 hS1 dL_sat_16)
    · have hE9 := List.mem_singleton.mp hE9
      subst hE9
      refine vx_catch (own := RL) (name := xI) hown [⟨0, 10, 13, 18⟩] ⟨0, 10, 17, 13⟩ [] hT (fun z hz => Or.inr (by rw [List.mem_singleton.mp hz]; exact ⟨by decide, xN, hts _ (inT 1 (by decide +kernel)), hX.2.2⟩)) (by decide) (by decide) (hts _ (inT 0 (by decide +kernel))) (hX.1.2.2.2.1.use rfl) h9 hv9 hcl ?_
      refine lv_astore hx hb dL_sat_17 hl (by decide) rfl (fun ls hl => ?_)
      refine lv_iconst (v := 2) hx hb dL_sat_19 (by decide) ?_
      exact W.widen (Nat.le_of_ble_eq_true rfl) (Nat.le_of_ble_eq_true rfl) (hE 2 (wg, fo, o) 20 ls H1 locs1 rfl ⟨hI, rfl⟩ hP1 hD1 hS1 dL_sat_20)
  · refine lv_i2l hx hb dL_sat_8 rfl ?_
    refine va_last (n := 1) (f := fo) hx hb hK (pc_ hP1) (dc_ hD1) hS1 0 3 rfl rfl (show ¬ ((0 : Int32) < 0 ∨ 1 ≤ (0 : Int32).toNatClampNeg) by decide) dL_sat_9 (fun H2 locs2 hP2 hD2 hS2 => ?_)
    have hP2 : va_P D vwCl ([oc ct qo (vp_updL fo (0 : Int32).toNatClampNeg r.toInt64)] ++ w1) H2 := hP2
    have hD2 : va_D A ([oc ct qo (vp_updL fo (0 : Int32).toNatClampNeg r.toInt64)] ++ w1) := hD2
    refine lv_goto (tgt := 21) hx hb dL_sat_10 (by decide) ?_
    refine lv_iconst (v := 0) hx hb dL_sat_21 (by decide) ?_
    exact W.widen (Nat.le_of_ble_eq_true rfl) (Nat.le_of_ble_eq_true rfl) (hE 0 (w1, (vp_updL fo (0 : Int32).toNatClampNeg r.toInt64), o) 22 ls H2 locs2 rfl ⟨hI1, rfl⟩ (pc_ hP2) (dc_ hD2) hS2 dL_sat_22)
set_option maxHeartbeats 4000000 in
set_option maxRecDepth 100000 in
theorem w_fits (l : Launch) (hst : l.stackTraces = false) (D : va_G) (ct : Nat → ClassId) (ad sw : Nat → Nat) (wa a0 qo sz : Nat) (o : OB) (q : OS) (wg : va_W) (fo : Nat → Int64) (p1 p2 : Int32) (hI : GI ct ad a0 o q wg) : eI (EL ad sw wa) l yL_fits wwL_fits rmW D ct (wg ++ [oc ct qo fo]) sz [.ref a0, .int p1, .int p2, .ref qo] (fun (k9 : Int32) (u : va_W × (Nat → Int64) × OB) => GI ct ad a0 u.2.2 q u.1 ∧ u.2.2 = o) (fun u : va_W × (Nat → Int64) × OB => u.1 ++ [oc ct qo u.2.1]) := by
  refine eIH_of (cc := cL_fits) (maxL := 5) (hh := [(0, 10, 13, 18)]) (by decide) rfl (Nat.le_of_ble_eq_true rfl) ?_
  intro p e s m args below meth c Q A hx hb hml hts hown hK hP hD hA hX hT hE ls hl
  have hS : va_S A s.heap s.heap [] := va_S.rf
  have hl : lv_has ls 5 [(0, .ref a0), (1, .int p1), (2, .int p2), (3, .ref qo)] := hl
  refine lv_aload_n hx hb dL_fits_0 rfl (lv_at hl 3 rfl) ?_
  refine lv_iconst (v := 0) hx hb dL_fits_1 (by decide) ?_
  refine lv_aload_n hx hb dL_fits_2 rfl (lv_at hl 0 rfl) ?_
  refine lv_iload_n hx hb dL_fits_3 rfl (lv_at hl 1 rfl) ?_
  refine lv_iload_n hx hb dL_fits_4 rfl (lv_at hl 2 rfl) ?_
  refine sG_fits (rest := [.int 0, .ref qo]) ⟨hx, hb, hml, hown, hts⟩ (cwV 2 hts (gInV gTL_good (gTL_11 588 (by decide +kernel)) 42 43 44 2 (by decide +kernel) (by decide +kernel) (by decide +kernel) (by decide +kernel)) rfl rfl rfl (by decide +kernel) ⟨(Nat.le_of_ble_eq_true rfl), (Nat.le_of_ble_eq_true rfl)⟩) hI hX.1 hst hK hP hD hS hA hl.1 (Nat.le_of_ble_eq_true rfl) dL_fits_5 ⟨(Nat.le_of_ble_eq_true rfl), (Nat.le_of_ble_eq_true rfl)⟩ p1 p2 (fun E ce q9 H1 locs1 hE9 h9 hv9 hcl hP1 hD1 hS1 => ?_) (fun r w1 H1 locs1 hI1 hP1 hD1 hS1 => ?_)
  · have hE9 := List.mem_singleton.mp hE9
    subst hE9
    refine vx_catch (own := RL) (name := xN) hown [] ⟨0, 10, 13, 18⟩ [] hT (fun z hz => by cases hz) (by decide) (by decide) (hts _ (inT 1 (by decide +kernel))) (hX.1.2.2.2.2.1.use rfl) h9 hv9 hcl ?_
    refine lv_astore hx hb dL_fits_13 hl (by decide) rfl (fun ls hl => ?_)
    refine lv_iconst (v := 1) hx hb dL_fits_15 (by decide) ?_
    exact W.widen (Nat.le_of_ble_eq_true rfl) (Nat.le_of_ble_eq_true rfl) (hE 1 (wg, fo, o) 16 ls H1 locs1 rfl ⟨hI, rfl⟩ hP1 hD1 hS1 dL_fits_16)
  · refine lv_i2l hx hb dL_fits_8 rfl ?_
    refine va_last (n := 1) (f := fo) hx hb hK (pc_ hP1) (dc_ hD1) hS1 0 3 rfl rfl (show ¬ ((0 : Int32) < 0 ∨ 1 ≤ (0 : Int32).toNatClampNeg) by decide) dL_fits_9 (fun H2 locs2 hP2 hD2 hS2 => ?_)
    have hP2 : va_P D vwCl ([oc ct qo (vp_updL fo (0 : Int32).toNatClampNeg r.toInt64)] ++ w1) H2 := hP2
    have hD2 : va_D A ([oc ct qo (vp_updL fo (0 : Int32).toNatClampNeg r.toInt64)] ++ w1) := hD2
    refine lv_goto (tgt := 17) hx hb dL_fits_10 (by decide) ?_
    refine lv_iconst (v := 0) hx hb dL_fits_17 (by decide) ?_
    exact W.widen (Nat.le_of_ble_eq_true rfl) (Nat.le_of_ble_eq_true rfl) (hE 0 (w1, (vp_updL fo (0 : Int32).toNatClampNeg r.toInt64), o) 18 ls H2 locs2 rfl ⟨hI1, rfl⟩ (pc_ hP2) (dc_ hD2) hS2 dL_fits_18)
set_option maxHeartbeats 4000000 in
set_option maxRecDepth 100000 in
theorem w_unlike (l : Launch) (hst : l.stackTraces = false) (D : va_G) (ct : Nat → ClassId) (ad sw : Nat → Nat) (wa a0 qo sz : Nat) (o : OB) (q : OS) (wg : va_W) (fo : Nat → Int64) (p1 p2 p3 : Int32) (hI : GI ct ad a0 o q wg) : eI (EL ad sw wa) l yL_unlike wwL_unlike rmW D ct (wg ++ [oc ct qo fo]) sz [.ref a0, .int p1, .int p2, .int p3, .ref qo] (fun (k9 : Int32) (u : va_W × (Nat → Int64) × OB) => GI ct ad a0 u.2.2 q u.1 ∧ u.2.2 = o) (fun u : va_W × (Nat → Int64) × OB => u.1 ++ [oc ct qo u.2.1]) := by
  refine eIH_of (cc := cL_unlike) (maxL := 6) (hh := [(0, 12, 15, 18)]) (by decide) rfl (Nat.le_of_ble_eq_true rfl) ?_
  intro p e s m args below meth c Q A hx hb hml hts hown hK hP hD hA hX hT hE ls hl
  have hS : va_S A s.heap s.heap [] := va_S.rf
  have hl : lv_has ls 6 [(0, .ref a0), (1, .int p1), (2, .int p2), (3, .int p3), (4, .ref qo)] := hl
  refine lv_aload hx hb dL_unlike_0 (lv_at hl 4 rfl) ?_
  refine lv_iconst (v := 0) hx hb dL_unlike_2 (by decide) ?_
  refine lv_aload_n hx hb dL_unlike_3 rfl (lv_at hl 0 rfl) ?_
  refine lv_iload_n hx hb dL_unlike_4 rfl (lv_at hl 1 rfl) ?_
  refine lv_iload_n hx hb dL_unlike_5 rfl (lv_at hl 2 rfl) ?_
  refine lv_iload_n hx hb dL_unlike_6 rfl (lv_at hl 3 rfl) ?_
  refine sG_unlike (rest := [.int 0, .ref qo]) ⟨hx, hb, hml, hown, hts⟩ (cwV 3 hts (gInV gTL_good (gTL_11 589 (by decide +kernel)) 45 46 47 2 (by decide +kernel) (by decide +kernel) (by decide +kernel) (by decide +kernel)) rfl rfl rfl (by decide +kernel) ⟨(Nat.le_of_ble_eq_true rfl), (Nat.le_of_ble_eq_true rfl)⟩) hI hX.1 hst hK hP hD hS hA hl.1 (Nat.le_of_ble_eq_true rfl) dL_unlike_7 ⟨(Nat.le_of_ble_eq_true rfl), (Nat.le_of_ble_eq_true rfl)⟩ p1 p2 p3 (fun E ce q9 H1 locs1 hE9 h9 hv9 hcl hP1 hD1 hS1 => ?_) (fun r w1 H1 locs1 hI1 hP1 hD1 hS1 => ?_)
  · have hE9 := List.mem_singleton.mp hE9
    subst hE9
    refine vx_catch (own := RL) (name := xN) hown [] ⟨0, 12, 15, 18⟩ [] hT (fun z hz => by cases hz) (by decide) (by decide) (hts _ (inT 1 (by decide +kernel))) (hX.1.2.2.2.2.1.use rfl) h9 hv9 hcl ?_
    refine lv_astore hx hb dL_unlike_15 hl (by decide) rfl (fun ls hl => ?_)
    refine lv_iconst (v := 1) hx hb dL_unlike_17 (by decide) ?_
    exact W.widen (Nat.le_of_ble_eq_true rfl) (Nat.le_of_ble_eq_true rfl) (hE 1 (wg, fo, o) 18 ls H1 locs1 rfl ⟨hI, rfl⟩ hP1 hD1 hS1 dL_unlike_18)
  · refine lv_i2l hx hb dL_unlike_10 rfl ?_
    refine va_last (n := 1) (f := fo) hx hb hK (pc_ hP1) (dc_ hD1) hS1 0 3 rfl rfl (show ¬ ((0 : Int32) < 0 ∨ 1 ≤ (0 : Int32).toNatClampNeg) by decide) dL_unlike_11 (fun H2 locs2 hP2 hD2 hS2 => ?_)
    have hP2 : va_P D vwCl ([oc ct qo (vp_updL fo (0 : Int32).toNatClampNeg r.toInt64)] ++ w1) H2 := hP2
    have hD2 : va_D A ([oc ct qo (vp_updL fo (0 : Int32).toNatClampNeg r.toInt64)] ++ w1) := hD2
    refine lv_goto (tgt := 19) hx hb dL_unlike_12 (by decide) ?_
    refine lv_iconst (v := 0) hx hb dL_unlike_19 (by decide) ?_
    exact W.widen (Nat.le_of_ble_eq_true rfl) (Nat.le_of_ble_eq_true rfl) (hE 0 (w1, (vp_updL fo (0 : Int32).toNatClampNeg r.toInt64), o) 20 ls H2 locs2 rfl ⟨hI1, rfl⟩ (pc_ hP2) (dc_ hD2) hS2 dL_unlike_20)
set_option maxHeartbeats 4000000 in
set_option maxRecDepth 100000 in
theorem w_seats (l : Launch) (hst : l.stackTraces = false) (D : va_G) (ct : Nat → ClassId) (ad sw : Nat → Nat) (wa a0 qo sz : Nat) (o : OB) (q : OS) (wg : va_W) (fo : Nat → Int64) (p1 : Int32) (hI : GI ct ad a0 o q wg) : eI (EL ad sw wa) l yL_seats wwL_seats rmW D ct (wg ++ [oc ct qo fo]) sz [.ref a0, .int p1, .ref qo] (fun (k9 : Int32) (u : va_W × (Nat → Int64) × OB) => GI ct ad a0 u.2.2 q u.1 ∧ u.2.2 = o) (fun u : va_W × (Nat → Int64) × OB => u.1 ++ [oc ct qo u.2.1]) := by
  refine eIH_of (cc := cL_seats) (maxL := 4) (hh := [(0, 9, 12, 18)]) (by decide) rfl (Nat.le_of_ble_eq_true rfl) ?_
  intro p e s m args below meth c Q A hx hb hml hts hown hK hP hD hA hX hT hE ls hl
  have hS : va_S A s.heap s.heap [] := va_S.rf
  have hl : lv_has ls 4 [(0, .ref a0), (1, .int p1), (2, .ref qo)] := hl
  refine lv_aload_n hx hb dL_seats_0 rfl (lv_at hl 2 rfl) ?_
  refine lv_iconst (v := 0) hx hb dL_seats_1 (by decide) ?_
  refine lv_aload_n hx hb dL_seats_2 rfl (lv_at hl 0 rfl) ?_
  refine lv_iload_n hx hb dL_seats_3 rfl (lv_at hl 1 rfl) ?_
  refine sG_seats (rest := [.int 0, .ref qo]) ⟨hx, hb, hml, hown, hts⟩ (cwV 1 hts (gInV gTL_good (gTL_11 590 (by decide +kernel)) 48 49 50 2 (by decide +kernel) (by decide +kernel) (by decide +kernel) (by decide +kernel)) rfl rfl rfl (by decide +kernel) ⟨(Nat.le_of_ble_eq_true rfl), (Nat.le_of_ble_eq_true rfl)⟩) hI hX.1 hst hK hP hD hS hA hl.1 (Nat.le_of_ble_eq_true rfl) dL_seats_4 ⟨(Nat.le_of_ble_eq_true rfl), (Nat.le_of_ble_eq_true rfl)⟩ p1 (fun E ce q9 H1 locs1 hE9 h9 hv9 hcl hP1 hD1 hS1 => ?_) (fun r w1 H1 locs1 hI1 hP1 hD1 hS1 => ?_)
  · have hE9 := List.mem_singleton.mp hE9
    subst hE9
    refine vx_catch (own := RL) (name := xN) hown [] ⟨0, 9, 12, 18⟩ [] hT (fun z hz => by cases hz) (by decide) (by decide) (hts _ (inT 1 (by decide +kernel))) (hX.1.2.2.2.2.1.use rfl) h9 hv9 hcl ?_
    refine lv_astore_n hx hb dL_seats_12 rfl hl (by decide) rfl (fun ls hl => ?_)
    refine lv_iconst (v := 1) hx hb dL_seats_13 (by decide) ?_
    exact W.widen (Nat.le_of_ble_eq_true rfl) (Nat.le_of_ble_eq_true rfl) (hE 1 (wg, fo, o) 14 ls H1 locs1 rfl ⟨hI, rfl⟩ hP1 hD1 hS1 dL_seats_14)
  · refine lv_i2l hx hb dL_seats_7 rfl ?_
    refine va_last (n := 1) (f := fo) hx hb hK (pc_ hP1) (dc_ hD1) hS1 0 3 rfl rfl (show ¬ ((0 : Int32) < 0 ∨ 1 ≤ (0 : Int32).toNatClampNeg) by decide) dL_seats_8 (fun H2 locs2 hP2 hD2 hS2 => ?_)
    have hP2 : va_P D vwCl ([oc ct qo (vp_updL fo (0 : Int32).toNatClampNeg r.toInt64)] ++ w1) H2 := hP2
    have hD2 : va_D A ([oc ct qo (vp_updL fo (0 : Int32).toNatClampNeg r.toInt64)] ++ w1) := hD2
    refine lv_goto (tgt := 15) hx hb dL_seats_9 (by decide) ?_
    refine lv_iconst (v := 0) hx hb dL_seats_15 (by decide) ?_
    exact W.widen (Nat.le_of_ble_eq_true rfl) (Nat.le_of_ble_eq_true rfl) (hE 0 (w1, (vp_updL fo (0 : Int32).toNatClampNeg r.toInt64), o) 16 ls H2 locs2 rfl ⟨hI1, rfl⟩ (pc_ hP2) (dc_ hD2) hS2 dL_seats_16)
set_option maxHeartbeats 4000000 in
set_option maxRecDepth 100000 in
theorem w_turn (l : Launch) (hst : l.stackTraces = false) (D : va_G) (ct : Nat → ClassId) (ad sw : Nat → Nat) (wa a0 qo sz : Nat) (o : OB) (q : OS) (wg : va_W) (fo : Nat → Int64) (p1 : Int32) (hI : GI ct ad a0 o q wg) : eI (EL ad sw wa) l yL_turn wwL_turn rmW D ct (wg ++ [oc ct qo fo]) sz [.ref a0, .int p1, .ref qo] (fun (k9 : Int32) (u : va_W × (Nat → Int64) × OB) => GI ct ad a0 u.2.2 q u.1 ∧ u.2.2 = o) (fun u : va_W × (Nat → Int64) × OB => u.1 ++ [oc ct qo u.2.1]) := by
  refine eIH_of (cc := cL_turn) (maxL := 4) (hh := [(0, 9, 12, 18)]) (by decide) rfl (Nat.le_of_ble_eq_true rfl) ?_
  intro p e s m args below meth c Q A hx hb hml hts hown hK hP hD hA hX hT hE ls hl
  have hS : va_S A s.heap s.heap [] := va_S.rf
  have hl : lv_has ls 4 [(0, .ref a0), (1, .int p1), (2, .ref qo)] := hl
  refine lv_aload_n hx hb dL_turn_0 rfl (lv_at hl 2 rfl) ?_
  refine lv_iconst (v := 0) hx hb dL_turn_1 (by decide) ?_
  refine lv_aload_n hx hb dL_turn_2 rfl (lv_at hl 0 rfl) ?_
  refine lv_iload_n hx hb dL_turn_3 rfl (lv_at hl 1 rfl) ?_
  refine sG_turn (rest := [.int 0, .ref qo]) ⟨hx, hb, hml, hown, hts⟩ (cwV 1 hts (gInV gTL_good (gTL_11 623 (by decide +kernel)) 51 52 53 2 (by decide +kernel) (by decide +kernel) (by decide +kernel) (by decide +kernel)) rfl rfl rfl (by decide +kernel) ⟨(Nat.le_of_ble_eq_true rfl), (Nat.le_of_ble_eq_true rfl)⟩) hI hX.1 hst hK hP hD hS hA hl.1 (Nat.le_of_ble_eq_true rfl) dL_turn_4 ⟨(Nat.le_of_ble_eq_true rfl), (Nat.le_of_ble_eq_true rfl)⟩ p1 (fun E ce q9 H1 locs1 hE9 h9 hv9 hcl hP1 hD1 hS1 => ?_) (fun r w1 H1 locs1 hI1 hP1 hD1 hS1 => ?_)
  · have hE9 := List.mem_singleton.mp hE9
    subst hE9
    refine vx_catch (own := RL) (name := xN) hown [] ⟨0, 9, 12, 18⟩ [] hT (fun z hz => by cases hz) (by decide) (by decide) (hts _ (inT 1 (by decide +kernel))) (hX.1.2.2.2.2.1.use rfl) h9 hv9 hcl ?_
    refine lv_astore_n hx hb dL_turn_12 rfl hl (by decide) rfl (fun ls hl => ?_)
    refine lv_iconst (v := 1) hx hb dL_turn_13 (by decide) ?_
    exact W.widen (Nat.le_of_ble_eq_true rfl) (Nat.le_of_ble_eq_true rfl) (hE 1 (wg, fo, o) 14 ls H1 locs1 rfl ⟨hI, rfl⟩ hP1 hD1 hS1 dL_turn_14)
  · refine lv_i2l hx hb dL_turn_7 rfl ?_
    refine va_last (n := 1) (f := fo) hx hb hK (pc_ hP1) (dc_ hD1) hS1 0 3 rfl rfl (show ¬ ((0 : Int32) < 0 ∨ 1 ≤ (0 : Int32).toNatClampNeg) by decide) dL_turn_8 (fun H2 locs2 hP2 hD2 hS2 => ?_)
    have hP2 : va_P D vwCl ([oc ct qo (vp_updL fo (0 : Int32).toNatClampNeg r.toInt64)] ++ w1) H2 := hP2
    have hD2 : va_D A ([oc ct qo (vp_updL fo (0 : Int32).toNatClampNeg r.toInt64)] ++ w1) := hD2
    refine lv_goto (tgt := 15) hx hb dL_turn_9 (by decide) ?_
    refine lv_iconst (v := 0) hx hb dL_turn_15 (by decide) ?_
    exact W.widen (Nat.le_of_ble_eq_true rfl) (Nat.le_of_ble_eq_true rfl) (hE 0 (w1, (vp_updL fo (0 : Int32).toNatClampNeg r.toInt64), o) 16 ls H2 locs2 rfl ⟨hI1, rfl⟩ (pc_ hP2) (dc_ hD2) hS2 dL_turn_16)
set_option maxHeartbeats 4000000 in
set_option maxRecDepth 100000 in
theorem w_lasts (l : Launch) (hst : l.stackTraces = false) (D : va_G) (ct : Nat → ClassId) (ad sw : Nat → Nat) (wa a0 qo sz : Nat) (o : OB) (q : OS) (wg : va_W) (fo : Nat → Int64) (p1 p2 : Int32) (hI : GI ct ad a0 o q wg) : eI (EL ad sw wa) l yL_lasts wwL_lasts rmW D ct (wg ++ [oc ct qo fo]) sz [.ref a0, .int p1, .int p2, .ref qo] (fun (k9 : Int32) (u : va_W × (Nat → Int64) × OB) => GI ct ad a0 u.2.2 q u.1 ∧ u.2.2 = o) (fun u : va_W × (Nat → Int64) × OB => u.1 ++ [oc ct qo u.2.1]) := by
  refine eIH_of (cc := cL_lasts) (maxL := 5) (hh := [(0, 10, 13, 18)]) (by decide) rfl (Nat.le_of_ble_eq_true rfl) ?_
  intro p e s m args below meth c Q A hx hb hml hts hown hK hP hD hA hX hT hE ls hl
  have hS : va_S A s.heap s.heap [] := va_S.rf
  have hl : lv_has ls 5 [(0, .ref a0), (1, .int p1), (2, .int p2), (3, .ref qo)] := hl
  refine lv_aload_n hx hb dL_lasts_0 rfl (lv_at hl 3 rfl) ?_
  refine lv_iconst (v := 0) hx hb dL_lasts_1 (by decide) ?_
  refine lv_aload_n hx hb dL_lasts_2 rfl (lv_at hl 0 rfl) ?_
  refine lv_iload_n hx hb dL_lasts_3 rfl (lv_at hl 1 rfl) ?_
  refine lv_iload_n hx hb dL_lasts_4 rfl (lv_at hl 2 rfl) ?_
  refine sG_lasts (rest := [.int 0, .ref qo]) ⟨hx, hb, hml, hown, hts⟩ (cwV 2 hts (gInV gTL_good (gTL_11 627 (by decide +kernel)) 54 55 56 2 (by decide +kernel) (by decide +kernel) (by decide +kernel) (by decide +kernel)) rfl rfl rfl (by decide +kernel) ⟨(Nat.le_of_ble_eq_true rfl), (Nat.le_of_ble_eq_true rfl)⟩) hI hX.1 hst hK hP hD hS hA hl.1 (Nat.le_of_ble_eq_true rfl) dL_lasts_5 ⟨(Nat.le_of_ble_eq_true rfl), (Nat.le_of_ble_eq_true rfl)⟩ p1 p2 (fun E ce q9 H1 locs1 hE9 h9 hv9 hcl hP1 hD1 hS1 => ?_) (fun r w1 H1 locs1 hI1 hP1 hD1 hS1 => ?_)
  · have hE9 := List.mem_singleton.mp hE9
    subst hE9
    refine vx_catch (own := RL) (name := xN) hown [] ⟨0, 10, 13, 18⟩ [] hT (fun z hz => by cases hz) (by decide) (by decide) (hts _ (inT 1 (by decide +kernel))) (hX.1.2.2.2.2.1.use rfl) h9 hv9 hcl ?_
    refine lv_astore hx hb dL_lasts_13 hl (by decide) rfl (fun ls hl => ?_)
    refine lv_iconst (v := 1) hx hb dL_lasts_15 (by decide) ?_
    exact W.widen (Nat.le_of_ble_eq_true rfl) (Nat.le_of_ble_eq_true rfl) (hE 1 (wg, fo, o) 16 ls H1 locs1 rfl ⟨hI, rfl⟩ hP1 hD1 hS1 dL_lasts_16)
  · refine lv_i2l hx hb dL_lasts_8 rfl ?_
    refine va_last (n := 1) (f := fo) hx hb hK (pc_ hP1) (dc_ hD1) hS1 0 3 rfl rfl (show ¬ ((0 : Int32) < 0 ∨ 1 ≤ (0 : Int32).toNatClampNeg) by decide) dL_lasts_9 (fun H2 locs2 hP2 hD2 hS2 => ?_)
    have hP2 : va_P D vwCl ([oc ct qo (vp_updL fo (0 : Int32).toNatClampNeg r.toInt64)] ++ w1) H2 := hP2
    have hD2 : va_D A ([oc ct qo (vp_updL fo (0 : Int32).toNatClampNeg r.toInt64)] ++ w1) := hD2
    refine lv_goto (tgt := 17) hx hb dL_lasts_10 (by decide) ?_
    refine lv_iconst (v := 0) hx hb dL_lasts_17 (by decide) ?_
    exact W.widen (Nat.le_of_ble_eq_true rfl) (Nat.le_of_ble_eq_true rfl) (hE 0 (w1, (vp_updL fo (0 : Int32).toNatClampNeg r.toInt64), o) 18 ls H2 locs2 rfl ⟨hI1, rfl⟩ (pc_ hP2) (dc_ hD2) hS2 dL_lasts_18)
