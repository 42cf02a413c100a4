set_option maxHeartbeats 4000000 in
set_option maxRecDepth 100000 in
theorem w_tower (l : Launch) (hst : l.stackTraces = false) (D : va_G) (ct : Nat → ClassId) (ad sw : Nat → Nat) (wa a0 qo sz : Nat) (o : OB) (q : OS) (wg : va_W) (fo : Nat → Int64) (p1 : Int32) (hI : GI ct ad a0 o q wg) : eI (EL ad sw wa) l yL_tower wwL_tower rmW D ct (wg ++ [oc ct qo fo]) sz [.ref a0, .int p1, .ref qo] (fun (k9 : Int32) (u : va_W × (Nat → Int64) × OB) => (∀ (cv : Int) (r9 : Int32) (o9 : OB) (q9 : OS), (((p1.toInt < 0 ∨ o.1 < p1.toInt) ∧ cv = 1 ∧ o9 = o) ∨ (0 ≤ p1.toInt ∧ p1.toInt ≤ o.1 ∧ cv = 0 ∧ r9.toInt = ((ux_tw (ux_Bt o.2.1 p1.toInt)).1 : Int) ∧ o9 = ux_to o p1.toInt)) → XM_tower o q p1 cv r9 q9 → GI ct ad a0 u.2.2 q9 u.1) ∧ (((p1.toInt < 0 ∨ o.1 < p1.toInt) ∧ k9 = 1 ∧ u.2.2 = o) ∨ (0 ≤ p1.toInt ∧ p1.toInt ≤ o.1 ∧ k9 = 0 ∧ (∃ r : Int32, u.2.1 0 = r.toInt64 ∧ r.toInt = ((ux_tw (ux_Bt o.2.1 p1.toInt)).1 : Int)) ∧ u.2.2 = ux_to o p1.toInt))) (fun u : va_W × (Nat → Int64) × OB => u.1 ++ [oc ct qo u.2.1]) := by
  refine eIH_of (cc := cL_tower) (maxL := 4) (hh := [(0, 9, 12, 13)]) (by decide) rfl (Nat.le_of_ble_eq_true rfl) ?_
  intro p e s m args below meth c Q A hx hb hml hts hown hK hP hD hA hX hT hE ls hl
  have hS : va_S A s.heap s.heap [] := va_S.rf
  have hl : lv_has ls 4 [(0, .ref a0), (1, .int p1), (2, .ref qo)] := hl
  refine lv_aload_n hx hb dL_tower_0 rfl (lv_at hl 2 rfl) ?_
  refine lv_iconst (v := 0) hx hb dL_tower_1 (by decide) ?_
  refine lv_aload_n hx hb dL_tower_2 rfl (lv_at hl 0 rfl) ?_
  refine lv_iload_n hx hb dL_tower_3 rfl (lv_at hl 1 rfl) ?_
  have ht := GI_t hI
  by_cases hp : 0 ≤ p1.toInt ∧ p1.toInt ≤ o.1
  · refine sG_towerA (rest := [.int 0, .ref qo]) ⟨hx, hb, hml, hown, hts⟩ (cwV 1 hts (gInV gTL_good (gTL_11 123 (by decide +kernel)) 3 4 5 2 (by decide +kernel) (by decide +kernel) (by decide +kernel) (by decide +kernel)) rfl rfl rfl (by decide +kernel) ⟨(Nat.le_of_ble_eq_true rfl), (Nat.le_of_ble_eq_true rfl)⟩) hI hX.2.1 hK hP hD hS hA hl.1 (Nat.le_of_ble_eq_true rfl) dL_tower_4 ⟨(Nat.le_of_ble_eq_true rfl), (Nat.le_of_ble_eq_true rfl)⟩ p1 ⟨hp.1, by omega⟩ hp.2 (fun r o' w1 H1 locs1 ht' hI1 hP1 hD1 hS1 => ?_)
    refine lv_i2l hx hb dL_tower_7 rfl ?_
    refine va_last (n := 1) (f := fo) hx hb hK (pc_ hP1) (dc_ hD1) hS1 0 3 rfl rfl (show ¬ ((0 : Int32) < 0 ∨ 1 ≤ (0 : Int32).toNatClampNeg) by decide) dL_tower_8 (fun H2 locs2 hP2 hD2 hS2 => ?_)
    have hP2 : va_P D vwCl ([oc ct qo (vp_updL fo (0 : Int32).toNatClampNeg r.toInt64)] ++ w1) H2 := hP2
    have hD2 : va_D A ([oc ct qo (vp_updL fo (0 : Int32).toNatClampNeg r.toInt64)] ++ w1) := hD2
    refine lv_goto (tgt := 15) hx hb dL_tower_9 (by decide) ?_
    refine lv_iconst (v := 0) hx hb dL_tower_15 (by decide) ?_
    exact W.widen (Nat.le_of_ble_eq_true rfl) (Nat.le_of_ble_eq_true rfl) (hE 0 (w1, (vp_updL fo (0 : Int32).toNatClampNeg r.toInt64), o') 16 ls H2 locs2 rfl ⟨hI1, (Or.inr ⟨hp.1, hp.2, rfl, ⟨r, rfl, ht'.1⟩, ht'.2⟩)⟩ (pc_ hP2) (dc_ hD2) hS2 dL_tower_16)
  · have hp : p1.toInt < 0 ∨ o.1 < p1.toInt := by omega
    refine sG_towerB (rest := [.int 0, .ref qo]) ⟨hx, hb, hml, hown, hts⟩ (cwV 1 hts (gInV gTL_good (gTL_11 123 (by decide +kernel)) 3 4 5 2 (by decide +kernel) (by decide +kernel) (by decide +kernel) (by decide +kernel)) rfl rfl rfl (by decide +kernel) ⟨(Nat.le_of_ble_eq_true rfl), (Nat.le_of_ble_eq_true rfl)⟩) hI hX.1 hst hK hP hD hS hA hl.1 (Nat.le_of_ble_eq_true rfl) dL_tower_4 ⟨(Nat.le_of_ble_eq_true rfl), (Nat.le_of_ble_eq_true rfl)⟩ p1 hp (fun E ce q9 H1 locs1 hE9 h9 hv9 hcl hP1 hD1 hS1 => ?_) (fun r w1 H1 locs1 hF9 hP1 hD1 hS1 => ?_)
    · have hE9 := List.mem_singleton.mp hE9
      subst hE9
      refine vx_catch (own := RL) (name := xI) hown [] ⟨0, 9, 12, 13⟩ [] hT (fun z hz => by cases hz) (by decide) (by decide) (hts _ (inT 0 (by decide +kernel))) (hX.1.2.2.2.1.use rfl) h9 hv9 hcl ?_
      refine lv_astore_n hx hb dL_tower_12 rfl hl (by decide) rfl (fun ls hl => ?_)
      refine lv_iconst (v := 1) hx hb dL_tower_13 (by decide) ?_
      exact W.widen (Nat.le_of_ble_eq_true rfl) (Nat.le_of_ble_eq_true rfl) (hE 1 (wg, fo, o) 14 ls H1 locs1 rfl ⟨(fun cv r9 o9 q9 ht9 hx9 => by
        rcases ht9 with ⟨-, w9, -⟩ | ⟨w8, w9, -⟩
        · exact GI_kq hI (hx9.2.2.2.2.1 (Or.inl (by rw [w9]; decide)))
        · omega), (Or.inl ⟨hp, rfl, rfl⟩)⟩ hP1 hD1 hS1 dL_tower_14)
    · exact False.elim hF9
set_option maxHeartbeats 4000000 in
set_option maxRecDepth 100000 in
theorem w_count (l : Launch) (hst : l.stackTraces = false) (D : va_G) (ct : Nat → ClassId) (ad sw : Nat → Nat) (wa a0 qo sz : Nat) (o : OB) (q : OS) (wg : va_W) (fo : Nat → Int64) (p1 : Int32) (hI : GI ct ad a0 o q wg) : eI (EL ad sw wa) l yL_count wwL_count rmW D ct (wg ++ [oc ct qo fo]) sz [.ref a0, .int p1, .ref qo] (fun (k9 : Int32) (u : va_W × (Nat → Int64) × OB) => GI ct ad a0 u.2.2 q u.1 ∧ u.2.2 = o) (fun u : va_W × (Nat → Int64) × OB => u.1 ++ [oc ct qo u.2.1]) := by
  refine eIH_of (cc := cL_count) (maxL := 4) (hh := [(0, 9, 12, 18)]) (by decide) rfl (Nat.le_of_ble_eq_true rfl) ?_
  intro p e s m args below meth c Q A hx hb hml hts hown hK hP hD hA hX hT hE ls hl
  have hS : va_S A s.heap s.heap [] := va_S.rf
  have hl : lv_has ls 4 [(0, .ref a0), (1, .int p1), (2, .ref qo)] := hl
  refine lv_aload_n hx hb dL_count_0 rfl (lv_at hl 2 rfl) ?_
  refine lv_iconst (v := 0) hx hb dL_count_1 (by decide) ?_
  refine lv_aload_n hx hb dL_count_2 rfl (lv_at hl 0 rfl) ?_
  refine lv_iload_n hx hb dL_count_3 rfl (lv_at hl 1 rfl) ?_
  refine sG_count (rest := [.int 0, .ref qo]) ⟨hx, hb, hml, hown, hts⟩ (cwV 1 hts (gInV gTL_good (gTL_11 379 (by decide +kernel)) 6 7 8 2 (by decide +kernel) (by decide +kernel) (by decide +kernel) (by decide +kernel)) rfl rfl rfl (by decide +kernel) ⟨(Nat.le_of_ble_eq_true rfl), (Nat.le_of_ble_eq_true rfl)⟩) hI hX.1 hst hK hP hD hS hA hl.1 (Nat.le_of_ble_eq_true rfl) dL_count_4 ⟨(Nat.le_of_ble_eq_true rfl), (Nat.le_of_ble_eq_true rfl)⟩ p1 (fun E ce q9 H1 locs1 hE9 h9 hv9 hcl hP1 hD1 hS1 => ?_) (fun r w1 H1 locs1 hI1 hP1 hD1 hS1 => ?_)
  · have hE9 := List.mem_singleton.mp hE9
    subst hE9
    refine vx_catch (own := RL) (name := xN) hown [] ⟨0, 9, 12, 18⟩ [] hT (fun z hz => by cases hz) (by decide) (by decide) (hts _ (inT 1 (by decide +kernel))) (hX.1.2.2.2.2.1.use rfl) h9 hv9 hcl ?_
    refine lv_astore_n hx hb dL_count_12 rfl hl (by decide) rfl (fun ls hl => ?_)
    refine lv_iconst (v := 1) hx hb dL_count_13 (by decide) ?_
    exact W.widen (Nat.le_of_ble_eq_true rfl) (Nat.le_of_ble_eq_true rfl) (hE 1 (wg, fo, o) 14 ls H1 locs1 rfl ⟨hI, rfl⟩ hP1 hD1 hS1 dL_count_14)
  · refine lv_i2l hx hb dL_count_7 rfl ?_
    refine va_last (n := 1) (f := fo) hx hb hK (pc_ hP1) (dc_ hD1) hS1 0 3 rfl rfl (show ¬ ((0 : Int32) < 0 ∨ 1 ≤ (0 : Int32).toNatClampNeg) by decide) dL_count_8 (fun H2 locs2 hP2 hD2 hS2 => ?_)
    have hP2 : va_P D vwCl ([oc ct qo (vp_updL fo (0 : Int32).toNatClampNeg r.toInt64)] ++ w1) H2 := hP2
    have hD2 : va_D A ([oc ct qo (vp_updL fo (0 : Int32).toNatClampNeg r.toInt64)] ++ w1) := hD2
    refine lv_goto (tgt := 15) hx hb dL_count_9 (by decide) ?_
    refine lv_iconst (v := 0) hx hb dL_count_15 (by decide) ?_
    exact W.widen (Nat.le_of_ble_eq_true rfl) (Nat.le_of_ble_eq_true rfl) (hE 0 (w1, (vp_updL fo (0 : Int32).toNatClampNeg r.toInt64), o) 16 ls H2 locs2 rfl ⟨hI1, rfl⟩ (pc_ hP2) (dc_ hD2) hS2 dL_count_16)
set_option maxHeartbeats 4000000 in
set_option maxRecDepth 100000 in
theorem w_gargoyle (l : Launch) (hst : l.stackTraces = false) (D : va_G) (ct : Nat → ClassId) (ad sw : Nat → Nat) (wa a0 qo sz : Nat) (o : OB) (q : OS) (wg : va_W) (fo : Nat → Int64) (p1 p2 : Int32) (hI : GI ct ad a0 o q wg) : eI (EL ad sw wa) l yL_gargoyle wwL_gargoyle rmW D ct (wg ++ [oc ct qo fo]) sz [.ref a0, .int p1, .int p2, .ref qo] (fun (k9 : Int32) (u : va_W × (Nat → Int64) × OB) => GI ct ad a0 u.2.2 q u.1 ∧ u.2.2 = o) (fun u : va_W × (Nat → Int64) × OB => u.1 ++ [oc ct qo u.2.1]) := by
  refine eIH_of (cc := cL_gargoyle) (maxL := 5) (hh := [(0, 10, 13, 18)]) (by decide) rfl (Nat.le_of_ble_eq_true rfl) ?_
  intro p e s m args below meth c Q A hx hb hml hts hown hK hP hD hA hX hT hE ls hl
  have hS : va_S A s.heap s.heap [] := va_S.rf
  have hl : lv_has ls 5 [(0, .ref a0), (1, .int p1), (2, .int p2), (3, .ref qo)] := hl
  refine lv_aload_n hx hb dL_gargoyle_0 rfl (lv_at hl 3 rfl) ?_
  refine lv_iconst (v := 0) hx hb dL_gargoyle_1 (by decide) ?_
  refine lv_aload_n hx hb dL_gargoyle_2 rfl (lv_at hl 0 rfl) ?_
  refine lv_iload_n hx hb dL_gargoyle_3 rfl (lv_at hl 1 rfl) ?_
  refine lv_iload_n hx hb dL_gargoyle_4 rfl (lv_at hl 2 rfl) ?_
  refine sG_gargoyle (rest := [.int 0, .ref qo]) ⟨hx, hb, hml, hown, hts⟩ (cwV 2 hts (gInV gTL_good (gTL_11 431 (by decide +kernel)) 9 10 11 2 (by decide +kernel) (by decide +kernel) (by decide +kernel) (by decide +kernel)) rfl rfl rfl (by decide +kernel) ⟨(Nat.le_of_ble_eq_true rfl), (Nat.le_of_ble_eq_true rfl)⟩) hI hX.1 hst hK hP hD hS hA hl.1 (Nat.le_of_ble_eq_true rfl) dL_gargoyle_5 ⟨(Nat.le_of_ble_eq_true rfl), (Nat.le_of_ble_eq_true rfl)⟩ p1 p2 (fun E ce q9 H1 locs1 hE9 h9 hv9 hcl hP1 hD1 hS1 => ?_) (fun r w1 H1 locs1 hI1 hP1 hD1 hS1 => ?_)
  · have hE9 := List.mem_singleton.mp hE9
    subst hE9
    refine vx_catch (own := RL) (name := xN) hown [] ⟨0, 10, 13, 18⟩ [] hT (fun z hz => by cases hz) (by decide) (by decide) (hts _ (inT 1 (by decide +kernel))) (hX.1.2.2.2.2.1.use rfl) h9 hv9 hcl ?_
    refine lv_astore hx hb dL_gargoyle_13 hl (by decide) rfl (fun ls hl => ?_)
    refine lv_iconst (v := 1) hx hb dL_gargoyle_15 (by decide) ?_
    exact W.widen (Nat.le_of_ble_eq_true rfl) (Nat.le_of_ble_eq_true rfl) (hE 1 (wg, fo, o) 16 ls H1 locs1 rfl ⟨hI, rfl⟩ hP1 hD1 hS1 dL_gargoyle_16)
  · refine lv_i2l hx hb dL_gargoyle_8 rfl ?_
    refine va_last (n := 1) (f := fo) hx hb hK (pc_ hP1) (dc_ hD1) hS1 0 3 rfl rfl (show ¬ ((0 : Int32) < 0 ∨ 1 ≤ (0 : Int32).toNatClampNeg) by decide) dL_gargoyle_9 (fun H2 locs2 hP2 hD2 hS2 => ?_)
    have hP2 : va_P D vwCl ([oc ct qo (vp_updL fo (0 : Int32).toNatClampNeg r.toInt64)] ++ w1) H2 := hP2
    have hD2 : va_D A ([oc ct qo (vp_updL fo (0 : Int32).toNatClampNeg r.toInt64)] ++ w1) := hD2
    refine lv_goto (tgt := 17) hx hb dL_gargoyle_10 (by decide) ?_
    refine lv_iconst (v := 0) hx hb dL_gargoyle_17 (by decide) ?_
    exact W.widen (Nat.le_of_ble_eq_true rfl) (Nat.le_of_ble_eq_true rfl) (hE 0 (w1, (vp_updL fo (0 : Int32).toNatClampNeg r.toInt64), o) 18 ls H2 locs2 rfl ⟨hI1, rfl⟩ (pc_ hP2) (dc_ hD2) hS2 dL_gargoyle_18)
set_option maxHeartbeats 4000000 in
set_option maxRecDepth 100000 in
theorem w_person (l : Launch) (hst : l.stackTraces = false) (D : va_G) (ct : Nat → ClassId) (ad sw : Nat → Nat) (wa a0 qo sz : Nat) (o : OB) (q : OS) (wg : va_W) (fo : Nat → Int64) (p1 p2 : Int32) (hI : GI ct ad a0 o q wg) : eI (EL ad sw wa) l yL_person wwL_person rmW D ct (wg ++ [oc ct qo fo]) sz [.ref a0, .int p1, .int p2, .ref qo] (fun (k9 : Int32) (u : va_W × (Nat → Int64) × OB) => GI ct ad a0 u.2.2 q u.1 ∧ u.2.2 = o) (fun u : va_W × (Nat → Int64) × OB => u.1 ++ [oc ct qo u.2.1]) := by
  refine eIH_of (cc := cL_person) (maxL := 5) (hh := [(0, 10, 13, 18)]) (by decide) rfl (Nat.le_of_ble_eq_true rfl) ?_
  intro p e s m args below meth c Q A hx hb hml hts hown hK hP hD hA hX hT hE ls hl
  have hS : va_S A s.heap s.heap [] := va_S.rf
  have hl : lv_has ls 5 [(0, .ref a0), (1, .int p1), (2, .int p2), (3, .ref qo)] := hl
  refine lv_aload_n hx hb dL_person_0 rfl (lv_at hl 3 rfl) ?_
  refine lv_iconst (v := 0) hx hb dL_person_1 (by decide) ?_
  refine lv_aload_n hx hb dL_person_2 rfl (lv_at hl 0 rfl) ?_
  refine lv_iload_n hx hb dL_person_3 rfl (lv_at hl 1 rfl) ?_
  refine lv_iload_n hx hb dL_person_4 rfl (lv_at hl 2 rfl) ?_
  refine sG_person (rest := [.int 0, .ref qo]) ⟨hx, hb, hml, hown, hts⟩ (cwV 2 hts (gInV gTL_good (gTL_11 447 (by decide +kernel)) 12 13 14 2 (by decide +kernel) (by decide +kernel) (by decide +kernel) (by decide +kernel)) rfl rfl rfl (by decide +kernel) ⟨(Nat.le_of_ble_eq_true rfl), (Nat.le_of_ble_eq_true rfl)⟩) hI hX.1 hst hK hP hD hS hA hl.1 (Nat.le_of_ble_eq_true rfl) dL_person_5 ⟨(Nat.le_of_ble_eq_true rfl), (Nat.le_of_ble_eq_true rfl)⟩ p1 p2 (fun E ce q9 H1 locs1 hE9 h9 hv9 hcl hP1 hD1 hS1 => ?_) (fun r w1 H1 locs1 hI1 hP1 hD1 hS1 => ?_)
  · have hE9 := List.mem_singleton.mp hE9
    subst hE9
    refine vx_catch (own := RL) (name := xN) hown [] ⟨0, 10, 13, 18⟩ [] hT (fun z hz => by cases hz) (by decide) (by decide) (hts _ (inT 1 (by decide +kernel))) (hX.1.2.2.2.2.1.use rfl) h9 hv9 hcl ?_
    refine lv_astore hx hb dL_person_13 hl (by decide) rfl (fun ls hl => ?_)
    refine lv_iconst (v := 1) hx hb dL_person_15 (by decide) ?_
    exact W.widen (Nat.le_of_ble_eq_true rfl) (Nat.le_of_ble_eq_true rfl) (hE 1 (wg, fo, o) 16 ls H1 locs1 rfl ⟨hI, rfl⟩ hP1 hD1 hS1 dL_person_16)
  · refine lv_i2l hx hb dL_person_8 rfl ?_
    refine va_last (n := 1) (f := fo) hx hb hK (pc_ hP1) (dc_ hD1) hS1 0 3 rfl rfl (show ¬ ((0 : Int32) < 0 ∨ 1 ≤ (0 : Int32).toNatClampNeg) by decide) dL_person_9 (fun H2 locs2 hP2 hD2 hS2 => ?_)
    have hP2 : va_P D vwCl ([oc ct qo (vp_updL fo (0 : Int32).toNatClampNeg r.toInt64)] ++ w1) H2 := hP2
    have hD2 : va_D A ([oc ct qo (vp_updL fo (0 : Int32).toNatClampNeg r.toInt64)] ++ w1) := hD2
    refine lv_goto (tgt := 17) hx hb dL_person_10 (by decide) ?_
    refine lv_iconst (v := 0) hx hb dL_person_17 (by decide) ?_
    exact W.widen (Nat.le_of_ble_eq_true rfl) (Nat.le_of_ble_eq_true rfl) (hE 0 (w1, (vp_updL fo (0 : Int32).toNatClampNeg r.toInt64), o) 18 ls H2 locs2 rfl ⟨hI1, rfl⟩ (pc_ hP2) (dc_ hD2) hS2 dL_person_18)
set_option maxHeartbeats 4000000 in
set_option maxRecDepth 100000 in
theorem w_cut (l : Launch) (hst : l.stackTraces = false) (D : va_G) (ct : Nat → ClassId) (ad sw : Nat → Nat) (wa a0 qo sz : Nat) (o : OB) (q : OS) (wg : va_W) (fo : Nat → Int64) (p1 p2 p3 : Int32) (hI : GI ct ad a0 o q wg) : eI (EL ad sw wa) l yL_cut wwL_cut rmW D ct (wg ++ [oc ct qo fo]) sz [.ref a0, .int p1, .int p2, .int p3, .ref qo] (fun (k9 : Int32) (u : va_W × (Nat → Int64) × OB) => (∀ (c9 r9 : Int32) (q9 : OS), XM_cut q p1 p2 p3 c9 r9 q9 → GI ct ad a0 u.2.2 q9 u.1) ∧ u.2.2 = o) (fun u : va_W × (Nat → Int64) × OB => u.1 ++ [oc ct qo u.2.1]) := by
  refine eIH_of (cc := cL_cut) (maxL := 6) (hh := [(0, 12, 15, 18)]) (by decide) rfl (Nat.le_of_ble_eq_true rfl) ?_
  intro p e s m args below meth c Q A hx hb hml hts hown hK hP hD hA hX hT hE ls hl
  have hS : va_S A s.heap s.heap [] := va_S.rf
  have hl : lv_has ls 6 [(0, .ref a0), (1, .int p1), (2, .int p2), (3, .int p3), (4, .ref qo)] := hl
  refine lv_aload hx hb dL_cut_0 (lv_at hl 4 rfl) ?_
  refine lv_iconst (v := 0) hx hb dL_cut_2 (by decide) ?_
  refine lv_aload_n hx hb dL_cut_3 rfl (lv_at hl 0 rfl) ?_
  refine lv_iload_n hx hb dL_cut_4 rfl (lv_at hl 1 rfl) ?_
  refine lv_iload_n hx hb dL_cut_5 rfl (lv_at hl 2 rfl) ?_
  refine lv_iload_n hx hb dL_cut_6 rfl (lv_at hl 3 rfl) ?_
  by_cases hpq : (0 ≤ p1.toInt ∧ p1.toInt < (q 0 0).toInt)
  · refine sG_cutA (rest := [.int 0, .ref qo]) ⟨hx, hb, hml, hown, hts⟩ (cwV 3 hts (gInV gTL_good (gTL_11 550 (by decide +kernel)) 15 16 17 2 (by decide +kernel) (by decide +kernel) (by decide +kernel) (by decide +kernel)) rfl rfl rfl (by decide +kernel) ⟨(Nat.le_of_ble_eq_true rfl), (Nat.le_of_ble_eq_true rfl)⟩) hI  hK hP hD hS hA hl.1 (Nat.le_of_ble_eq_true rfl) dL_cut_7 ⟨(Nat.le_of_ble_eq_true rfl), (Nat.le_of_ble_eq_true rfl)⟩ p1 p2 p3 hpq (fun r w1 H1 locs1 hI1 hP1 hD1 hS1 => ?_)
    refine lv_i2l hx hb dL_cut_10 rfl ?_
    refine va_last (n := 1) (f := fo) hx hb hK (pc_ hP1) (dc_ hD1) hS1 0 3 rfl rfl (show ¬ ((0 : Int32) < 0 ∨ 1 ≤ (0 : Int32).toNatClampNeg) by decide) dL_cut_11 (fun H2 locs2 hP2 hD2 hS2 => ?_)
    have hP2 : va_P D vwCl ([oc ct qo (vp_updL fo (0 : Int32).toNatClampNeg r.toInt64)] ++ w1) H2 := hP2
    have hD2 : va_D A ([oc ct qo (vp_updL fo (0 : Int32).toNatClampNeg r.toInt64)] ++ w1) := hD2
    refine lv_goto (tgt := 19) hx hb dL_cut_12 (by decide) ?_
    refine lv_iconst (v := 0) hx hb dL_cut_19 (by decide) ?_
    exact W.widen (Nat.le_of_ble_eq_true rfl) (Nat.le_of_ble_eq_true rfl) (hE 0 (w1, (vp_updL fo (0 : Int32).toNatClampNeg r.toInt64), o) 20 ls H2 locs2 rfl ⟨(fun c9 r9 q9 hx9 => (hI1 c9 r9 q9 hx9).2.2), rfl⟩ (pc_ hP2) (dc_ hD2) hS2 dL_cut_20)
  · have hpx : (p1.toInt < 0 ∨ (q 0 0).toInt ≤ p1.toInt) := by omega
    refine sG_cutX (rest := [.int 0, .ref qo]) ⟨hx, hb, hml, hown, hts⟩ (cwV 3 hts (gInV gTL_good (gTL_11 550 (by decide +kernel)) 15 16 17 2 (by decide +kernel) (by decide +kernel) (by decide +kernel) (by decide +kernel)) rfl rfl rfl (by decide +kernel) ⟨(Nat.le_of_ble_eq_true rfl), (Nat.le_of_ble_eq_true rfl)⟩) hI hX.1 hst hK hP hD hS hA hl.1 (Nat.le_of_ble_eq_true rfl) dL_cut_7 ⟨(Nat.le_of_ble_eq_true rfl), (Nat.le_of_ble_eq_true rfl)⟩ p1 p2 p3 hpx (fun E ce q9 H1 locs1 hE9 h9 hv9 hcl hP1 hD1 hS1 => ?_) (fun r w1 H1 locs1 hF9 hP1 hD1 hS1 => ?_)
    · have hE9 := List.mem_singleton.mp hE9
      subst hE9
      refine vx_catch (own := RL) (name := xN) hown [] ⟨0, 12, 15, 18⟩ [] hT (fun z hz => by cases hz) (by decide) (by decide) (hts _ (inT 1 (by decide +kernel))) (hX.1.2.2.2.2.1.use rfl) h9 hv9 hcl ?_
      refine lv_astore hx hb dL_cut_15 hl (by decide) rfl (fun ls hl => ?_)
      refine lv_iconst (v := 1) hx hb dL_cut_17 (by decide) ?_
      exact W.widen (Nat.le_of_ble_eq_true rfl) (Nat.le_of_ble_eq_true rfl) (hE 1 (wg, fo, o) 18 ls H1 locs1 rfl ⟨(fun c9 r9 q9 hx9 => (GX_cut hI hpx hx9).2), rfl⟩ hP1 hD1 hS1 dL_cut_18)
    · exact False.elim hF9
set_option maxHeartbeats 4000000 in
set_option maxRecDepth 100000 in
theorem w_call (l : Launch) (hst : l.stackTraces = false) (D : va_G) (ct : Nat → ClassId) (ad sw : Nat → Nat) (wa a0 qo sz : Nat) (o : OB) (q : OS) (wg : va_W) (fo : Nat → Int64) (p1 : Int32) (hI : GI ct ad a0 o q wg) : eI (EL ad sw wa) l yL_call wwL_call rmW D ct (wg ++ [oc ct qo fo]) sz [.ref a0, .int p1, .ref qo] (fun (k9 : Int32) (u : va_W × (Nat → Int64) × OB) => (∀ (c9 r9 : Int32) (q9 : OS), XM_call q p1 c9 r9 q9 → GI ct ad a0 u.2.2 q9 u.1) ∧ u.2.2 = o) (fun u : va_W × (Nat → Int64) × OB => u.1 ++ [oc ct qo u.2.1]) := by
  refine eIH_of (cc := cL_call) (maxL := 4) (hh := [(0, 9, 12, 18)]) (by decide) rfl (Nat.le_of_ble_eq_true rfl) ?_
  intro p e s m args below meth c Q A hx hb hml hts hown hK hP hD hA hX hT hE ls hl
  have hS : va_S A s.heap s.heap [] := va_S.rf
  have hl : lv_has ls 4 [(0, .ref a0), (1, .int p1), (2, .ref qo)] := hl
  refine lv_aload_n hx hb dL_call_0 rfl (lv_at hl 2 rfl) ?_
  refine lv_iconst (v := 0) hx hb dL_call_1 (by decide) ?_
  refine lv_aload_n hx hb dL_call_2 rfl (lv_at hl 0 rfl) ?_
  refine lv_iload_n hx hb dL_call_3 rfl (lv_at hl 1 rfl) ?_
  by_cases hpq : (0 ≤ p1.toInt ∧ p1.toInt < (q 0 1).toInt)
  · refine sG_callA (rest := [.int 0, .ref qo]) ⟨hx, hb, hml, hown, hts⟩ (cwV 1 hts (gInV gTL_good (gTL_11 555 (by decide +kernel)) 18 19 20 2 (by decide +kernel) (by decide +kernel) (by decide +kernel) (by decide +kernel)) rfl rfl rfl (by decide +kernel) ⟨(Nat.le_of_ble_eq_true rfl), (Nat.le_of_ble_eq_true rfl)⟩) hI  hK hP hD hS hA hl.1 (Nat.le_of_ble_eq_true rfl) dL_call_4 ⟨(Nat.le_of_ble_eq_true rfl), (Nat.le_of_ble_eq_true rfl)⟩ p1 hpq (fun r w1 H1 locs1 hI1 hP1 hD1 hS1 => ?_)
    refine lv_i2l hx hb dL_call_7 rfl ?_
    refine va_last (n := 1) (f := fo) hx hb hK (pc_ hP1) (dc_ hD1) hS1 0 3 rfl rfl (show ¬ ((0 : Int32) < 0 ∨ 1 ≤ (0 : Int32).toNatClampNeg) by decide) dL_call_8 (fun H2 locs2 hP2 hD2 hS2 => ?_)
    have hP2 : va_P D vwCl ([oc ct qo (vp_updL fo (0 : Int32).toNatClampNeg r.toInt64)] ++ w1) H2 := hP2
    have hD2 : va_D A ([oc ct qo (vp_updL fo (0 : Int32).toNatClampNeg r.toInt64)] ++ w1) := hD2
    refine lv_goto (tgt := 15) hx hb dL_call_9 (by decide) ?_
    refine lv_iconst (v := 0) hx hb dL_call_15 (by decide) ?_
    exact W.widen (Nat.le_of_ble_eq_true rfl) (Nat.le_of_ble_eq_true rfl) (hE 0 (w1, (vp_updL fo (0 : Int32).toNatClampNeg r.toInt64), o) 16 ls H2 locs2 rfl ⟨(fun c9 r9 q9 hx9 => (hI1 c9 r9 q9 hx9).2.2), rfl⟩ (pc_ hP2) (dc_ hD2) hS2 dL_call_16)
  · have hpx : (p1.toInt < 0 ∨ (q 0 1).toInt ≤ p1.toInt) := by omega
    refine sG_callX (rest := [.int 0, .ref qo]) ⟨hx, hb, hml, hown, hts⟩ (cwV 1 hts (gInV gTL_good (gTL_11 555 (by decide +kernel)) 18 19 20 2 (by decide +kernel) (by decide +kernel) (by decide +kernel) (by decide +kernel)) rfl rfl rfl (by decide +kernel) ⟨(Nat.le_of_ble_eq_true rfl), (Nat.le_of_ble_eq_true rfl)⟩) hI hX.1 hst hK hP hD hS hA hl.1 (Nat.le_of_ble_eq_true rfl) dL_call_4 ⟨(Nat.le_of_ble_eq_true rfl), (Nat.le_of_ble_eq_true rfl)⟩ p1 hpx (fun E ce q9 H1 locs1 hE9 h9 hv9 hcl hP1 hD1 hS1 => ?_) (fun r w1 H1 locs1 hF9 hP1 hD1 hS1 => ?_)
    · have hE9 := List.mem_singleton.mp hE9
      subst hE9
      refine vx_catch (own := RL) (name := xN) hown [] ⟨0, 9, 12, 18⟩ [] hT (fun z hz => by cases hz) (by decide) (by decide) (hts _ (inT 1 (by decide +kernel))) (hX.1.2.2.2.2.1.use rfl) h9 hv9 hcl ?_
      refine lv_astore_n hx hb dL_call_12 rfl hl (by decide) rfl (fun ls hl => ?_)
      refine lv_iconst (v := 1) hx hb dL_call_13 (by decide) ?_
      exact W.widen (Nat.le_of_ble_eq_true rfl) (Nat.le_of_ble_eq_true rfl) (hE 1 (wg, fo, o) 14 ls H1 locs1 rfl ⟨(fun c9 r9 q9 hx9 => (GX_call hI hpx hx9).2), rfl⟩ hP1 hD1 hS1 dL_call_14)
    · exact False.elim hF9
set_option maxHeartbeats 4000000 in
set_option maxRecDepth 100000 in
theorem w_lift (l : Launch) (hst : l.stackTraces = false) (D : va_G) (ct : Nat → ClassId) (ad sw : Nat → Nat) (wa a0 qo sz : Nat) (o : OB) (q : OS) (wg : va_W) (fo : Nat → Int64) (p1 p2 : Int32) (hI : GI ct ad a0 o q wg) : eI (EL ad sw wa) l yL_lift wwL_lift rmW D ct (wg ++ [oc ct qo fo]) sz [.ref a0, .int p1, .int p2, .ref qo] (fun (k9 : Int32) (u : va_W × (Nat → Int64) × OB) => (∀ (c9 r9 : Int32) (q9 : OS), XM_lift q p1 p2 c9 r9 q9 → GI ct ad a0 u.2.2 q9 u.1) ∧ u.2.2 = o) (fun u : va_W × (Nat → Int64) × OB => u.1 ++ [oc ct qo u.2.1]) := by
  refine eIH_of (cc := cL_lift) (maxL := 5) (hh := [(0, 17, 20, 18)]) (by decide) rfl (Nat.le_of_ble_eq_true rfl) ?_
  intro p e s m args below meth c Q A hx hb hml hts hown hK hP hD hA hX hT hE ls hl
  have hS : va_S A s.heap s.heap [] := va_S.rf
  have hl : lv_has ls 5 [(0, .ref a0), (1, .int p1), (2, .int p2), (3, .ref qo)] := hl
  refine lv_aload_n hx hb dL_lift_0 rfl (lv_at hl 3 rfl) ?_
  refine lv_iconst (v := 0) hx hb dL_lift_1 (by decide) ?_
  refine lv_aload_n hx hb dL_lift_2 rfl (lv_at hl 0 rfl) ?_
  refine lv_iload_n hx hb dL_lift_3 rfl (lv_at hl 1 rfl) ?_
  refine lv_iload_n hx hb dL_lift_4 rfl (lv_at hl 2 rfl) ?_
  by_cases hpq : (0 ≤ p1.toInt ∧ p1.toInt < (q 0 1).toInt) ∧ (0 ≤ p2.toInt ∧ p2.toInt < (q 0 0).toInt)
  · refine sG_liftA (rest := [.int 0, .ref qo]) ⟨hx, hb, hml, hown, hts⟩ (cwV 2 hts (gInV gTL_good (gTL_11 556 (by decide +kernel)) 21 22 23 2 (by decide +kernel) (by decide +kernel) (by decide +kernel) (by decide +kernel)) rfl rfl rfl (by decide +kernel) ⟨(Nat.le_of_ble_eq_true rfl), (Nat.le_of_ble_eq_true rfl)⟩) hI  hK hP hD hS hA hl.1 (Nat.le_of_ble_eq_true rfl) dL_lift_5 ⟨(Nat.le_of_ble_eq_true rfl), (Nat.le_of_ble_eq_true rfl)⟩ p1 p2 hpq (fun r w1 H1 locs1 hI1 hP1 hD1 hS1 => ?_)
    refine lv_if_eq (tgt := 15) hx hb dL_lift_8 (by decide) (fun h9b => ?_) (fun h9b => ?_)
    · refine lv_lconst (v := 0) hx hb dL_lift_15 rfl ?_
      refine va_last (n := 1) (f := fo) hx hb hK (pc_ hP1) (dc_ hD1) hS1 0 3 rfl rfl (show ¬ ((0 : Int32) < 0 ∨ 1 ≤ (0 : Int32).toNatClampNeg) by decide) dL_lift_16 (fun H2 locs2 hP2 hD2 hS2 => ?_)
      have hP2 : va_P D vwCl ([oc ct qo (vp_updL fo (0 : Int32).toNatClampNeg 0)] ++ w1) H2 := hP2
      have hD2 : va_D A ([oc ct qo (vp_updL fo (0 : Int32).toNatClampNeg 0)] ++ w1) := hD2
      refine lv_goto (tgt := 24) hx hb dL_lift_17 (by decide) ?_
      refine lv_iconst (v := 0) hx hb dL_lift_24 (by decide) ?_
      exact W.widen (Nat.le_of_ble_eq_true rfl) (Nat.le_of_ble_eq_true rfl) (hE 0 (w1, (vp_updL fo (0 : Int32).toNatClampNeg 0), o) 25 ls H2 locs2 rfl ⟨(fun c9 r9 q9 hx9 => (hI1 c9 r9 q9 hx9).2.2), rfl⟩ (pc_ hP2) (dc_ hD2) hS2 dL_lift_25)
    · refine lv_lconst (v := 1) hx hb dL_lift_11 rfl ?_
      refine lv_goto (tgt := 16) hx hb dL_lift_12 (by decide) ?_
      refine va_last (n := 1) (f := fo) hx hb hK (pc_ hP1) (dc_ hD1) hS1 0 3 rfl rfl (show ¬ ((0 : Int32) < 0 ∨ 1 ≤ (0 : Int32).toNatClampNeg) by decide) dL_lift_16 (fun H2 locs2 hP2 hD2 hS2 => ?_)
      have hP2 : va_P D vwCl ([oc ct qo (vp_updL fo (0 : Int32).toNatClampNeg 1)] ++ w1) H2 := hP2
      have hD2 : va_D A ([oc ct qo (vp_updL fo (0 : Int32).toNatClampNeg 1)] ++ w1) := hD2
      refine lv_goto (tgt := 24) hx hb dL_lift_17 (by decide) ?_
      refine lv_iconst (v := 0) hx hb dL_lift_24 (by decide) ?_
      exact W.widen (Nat.le_of_ble_eq_true rfl) (Nat.le_of_ble_eq_true rfl) (hE 0 (w1, (vp_updL fo (0 : Int32).toNatClampNeg 1), o) 25 ls H2 locs2 rfl ⟨(fun c9 r9 q9 hx9 => (hI1 c9 r9 q9 hx9).2.2), rfl⟩ (pc_ hP2) (dc_ hD2) hS2 dL_lift_25)
  · have hpx : (p1.toInt < 0 ∨ (q 0 1).toInt ≤ p1.toInt) ∨ (p2.toInt < 0 ∨ (q 0 0).toInt ≤ p2.toInt) := by omega
    refine sG_liftX (rest := [.int 0, .ref qo]) ⟨hx, hb, hml, hown, hts⟩ (cwV 2 hts (gInV gTL_good (gTL_11 556 (by decide +kernel)) 21 22 23 2 (by decide +kernel) (by decide +kernel) (by decide +kernel) (by decide +kernel)) rfl rfl rfl (by decide +kernel) ⟨(Nat.le_of_ble_eq_true rfl), (Nat.le_of_ble_eq_true rfl)⟩) hI hX.1 hst hK hP hD hS hA hl.1 (Nat.le_of_ble_eq_true rfl) dL_lift_5 ⟨(Nat.le_of_ble_eq_true rfl), (Nat.le_of_ble_eq_true rfl)⟩ p1 p2 hpx (fun E ce q9 H1 locs1 hE9 h9 hv9 hcl hP1 hD1 hS1 => ?_) (fun r w1 H1 locs1 hF9 hP1 hD1 hS1 => ?_)
    · have hE9 := List.mem_singleton.mp hE9
      subst hE9
      refine vx_catch (own := RL) (name := xN) hown [] ⟨0, 17, 20, 18⟩ [] hT (fun z hz => by cases hz) (by decide) (by decide) (hts _ (inT 1 (by decide +kernel))) (hX.1.2.2.2.2.1.use rfl) h9 hv9 hcl ?_
      refine lv_astore hx hb dL_lift_20 hl (by decide) rfl (fun ls hl => ?_)
      refine lv_iconst (v := 1) hx hb dL_lift_22 (by decide) ?_
      exact W.widen (Nat.le_of_ble_eq_true rfl) (Nat.le_of_ble_eq_true rfl) (hE 1 (wg, fo, o) 23 ls H1 locs1 rfl ⟨(fun c9 r9 q9 hx9 => (GX_lift hI hpx hx9).2), rfl⟩ hP1 hD1 hS1 dL_lift_23)
    · exact False.elim hF9
set_option maxHeartbeats 4000000 in
set_option maxRecDepth 100000 in
theorem w_leave (l : Launch) (hst : l.stackTraces = false) (D : va_G) (ct : Nat → ClassId) (ad sw : Nat → Nat) (wa a0 qo sz : Nat) (o : OB) (q : OS) (wg : va_W) (fo : Nat → Int64) (p1 p2 : Int32) (hI : GI ct ad a0 o q wg) : eI (EL ad sw wa) l yL_leave wwL_leave rmW D ct (wg ++ [oc ct qo fo]) sz [.ref a0, .int p1, .int p2, .ref qo] (fun (k9 : Int32) (u : va_W × (Nat → Int64) × OB) => (∀ (c9 r9 : Int32) (q9 : OS), XM_leave q p1 p2 c9 r9 q9 → GI ct ad a0 u.2.2 q9 u.1) ∧ u.2.2 = o) (fun u : va_W × (Nat → Int64) × OB => u.1 ++ [oc ct qo u.2.1]) := by
  refine eIH_of (cc := cL_leave) (maxL := 5) (hh := [(0, 10, 13, 18)]) (by decide) rfl (Nat.le_of_ble_eq_true rfl) ?_
  intro p e s m args below meth c Q A hx hb hml hts hown hK hP hD hA hX hT hE ls hl
  have hS : va_S A s.heap s.heap [] := va_S.rf
  have hl : lv_has ls 5 [(0, .ref a0), (1, .int p1), (2, .int p2), (3, .ref qo)] := hl
  refine lv_aload_n hx hb dL_leave_0 rfl (lv_at hl 3 rfl) ?_
  refine lv_iconst (v := 0) hx hb dL_leave_1 (by decide) ?_
  refine lv_aload_n hx hb dL_leave_2 rfl (lv_at hl 0 rfl) ?_
  refine lv_iload_n hx hb dL_leave_3 rfl (lv_at hl 1 rfl) ?_
  refine lv_iload_n hx hb dL_leave_4 rfl (lv_at hl 2 rfl) ?_
  by_cases hpq : (0 ≤ p1.toInt ∧ p1.toInt < (q 0 1).toInt) ∧ (-1 ≤ p2.toInt ∧ p2.toInt < (q 0 0).toInt)
  · refine sG_leaveA (rest := [.int 0, .ref qo]) ⟨hx, hb, hml, hown, hts⟩ (cwV 2 hts (gInV gTL_good (gTL_11 557 (by decide +kernel)) 24 25 26 2 (by decide +kernel) (by decide +kernel) (by decide +kernel) (by decide +kernel)) rfl rfl rfl (by decide +kernel) ⟨(Nat.le_of_ble_eq_true rfl), (Nat.le_of_ble_eq_true rfl)⟩) hI  hK hP hD hS hA hl.1 (Nat.le_of_ble_eq_true rfl) dL_leave_5 ⟨(Nat.le_of_ble_eq_true rfl), (Nat.le_of_ble_eq_true rfl)⟩ p1 p2 hpq (fun r w1 H1 locs1 hI1 hP1 hD1 hS1 => ?_)
    refine lv_i2l hx hb dL_leave_8 rfl ?_
    refine va_last (n := 1) (f := fo) hx hb hK (pc_ hP1) (dc_ hD1) hS1 0 3 rfl rfl (show ¬ ((0 : Int32) < 0 ∨ 1 ≤ (0 : Int32).toNatClampNeg) by decide) dL_leave_9 (fun H2 locs2 hP2 hD2 hS2 => ?_)
    have hP2 : va_P D vwCl ([oc ct qo (vp_updL fo (0 : Int32).toNatClampNeg r.toInt64)] ++ w1) H2 := hP2
    have hD2 : va_D A ([oc ct qo (vp_updL fo (0 : Int32).toNatClampNeg r.toInt64)] ++ w1) := hD2
    refine lv_goto (tgt := 17) hx hb dL_leave_10 (by decide) ?_
    refine lv_iconst (v := 0) hx hb dL_leave_17 (by decide) ?_
    exact W.widen (Nat.le_of_ble_eq_true rfl) (Nat.le_of_ble_eq_true rfl) (hE 0 (w1, (vp_updL fo (0 : Int32).toNatClampNeg r.toInt64), o) 18 ls H2 locs2 rfl ⟨(fun c9 r9 q9 hx9 => (hI1 c9 r9 q9 hx9).2.2), rfl⟩ (pc_ hP2) (dc_ hD2) hS2 dL_leave_18)
  · have hpx : (p1.toInt < 0 ∨ (q 0 1).toInt ≤ p1.toInt) ∨ (p2.toInt < -1 ∨ (q 0 0).toInt ≤ p2.toInt) := by omega
    refine sG_leaveX (rest := [.int 0, .ref qo]) ⟨hx, hb, hml, hown, hts⟩ (cwV 2 hts (gInV gTL_good (gTL_11 557 (by decide +kernel)) 24 25 26 2 (by decide +kernel) (by decide +kernel) (by decide +kernel) (by decide +kernel)) rfl rfl rfl (by decide +kernel) ⟨(Nat.le_of_ble_eq_true rfl), (Nat.le_of_ble_eq_true rfl)⟩) hI hX.1 hst hK hP hD hS hA hl.1 (Nat.le_of_ble_eq_true rfl) dL_leave_5 ⟨(Nat.le_of_ble_eq_true rfl), (Nat.le_of_ble_eq_true rfl)⟩ p1 p2 hpx (fun E ce q9 H1 locs1 hE9 h9 hv9 hcl hP1 hD1 hS1 => ?_) (fun r w1 H1 locs1 hF9 hP1 hD1 hS1 => ?_)
    · have hE9 := List.mem_singleton.mp hE9
      subst hE9
      refine vx_catch (own := RL) (name := xN) hown [] ⟨0, 10, 13, 18⟩ [] hT (fun z hz => by cases hz) (by decide) (by decide) (hts _ (inT 1 (by decide +kernel))) (hX.1.2.2.2.2.1.use rfl) h9 hv9 hcl ?_
      refine lv_astore hx hb dL_leave_13 hl (by decide) rfl (fun ls hl => ?_)
      refine lv_iconst (v := 1) hx hb dL_leave_15 (by decide) ?_
      exact W.widen (Nat.le_of_ble_eq_true rfl) (Nat.le_of_ble_eq_true rfl) (hE 1 (wg, fo, o) 16 ls H1 locs1 rfl ⟨(fun c9 r9 q9 hx9 => (GX_leave hI hpx hx9).2), rfl⟩ hP1 hD1 hS1 dL_leave_16)
    · exact False.elim hF9
set_option maxHeartbeats 4000000 in
set_option maxRecDepth 100000 in
theorem w_then (l : Launch) (hst : l.stackTraces = false) (D : va_G) (ct : Nat → ClassId) (ad sw : Nat → Nat) (wa a0 qo sz : Nat) (o : OB) (q : OS) (wg : va_W) (fo : Nat → Int64) (p1 p2 p3 : Int32) (hI : GI ct ad a0 o q wg) : eI (EL ad sw wa) l yL_then wwL_then rmW D ct (wg ++ [oc ct qo fo]) sz [.ref a0, .int p1, .int p2, .int p3, .ref qo] (fun (k9 : Int32) (u : va_W × (Nat → Int64) × OB) => GI ct ad a0 u.2.2 q u.1 ∧ u.2.2 = o) (fun u : va_W × (Nat → Int64) × OB => u.1 ++ [oc ct qo u.2.1]) := by
  refine eIH_of (cc := cL_then) (maxL := 6) (hh := [(0, 12, 15, 18), (0, 12, 19, 13)]) (by decide) rfl (Nat.le_of_ble_eq_true rfl) ?_
  intro p e s m args below meth c Q A hx hb hml hts hown hK hP hD hA hX hT hE ls hl
  have hS : va_S A s.heap s.heap [] := va_S.rf
  have hl : lv_has ls 6 [(0, .ref a0), (1, .int p1), (2, .int p2), (3, .int p3), (4, .ref qo)] := hl
  refine lv_aload hx hb dL_then_0 (lv_at hl 4 rfl) ?_
  refine lv_iconst (v := 0) hx hb dL_then_2 (by decide) ?_
  refine lv_aload_n hx hb dL_then_3 rfl (lv_at hl 0 rfl) ?_
  refine lv_iload_n hx hb dL_then_4 rfl (lv_at hl 1 rfl) ?_
  refine lv_iload_n hx hb dL_then_5 rfl (lv_at hl 2 rfl) ?_
  refine lv_iload_n hx hb dL_then_6 rfl (lv_at hl 3 rfl) ?_
  refine sG_then (rest := [.int 0, .ref qo]) ⟨hx, hb, hml, hown, hts⟩ (cwV 3 hts (gInV gTL_good (gTL_11 572 (by decide +kernel)) 27 28 29 2 (by decide +kernel) (by decide +kernel) (by decide +kernel) (by decide +kernel)) rfl rfl rfl (by decide +kernel) ⟨(Nat.le_of_ble_eq_true rfl), (Nat.le_of_ble_eq_true rfl)⟩) hI hX.1 hst hK hP hD hS hA hl.1 (Nat.le_of_ble_eq_true rfl) dL_then_7 ⟨(Nat.le_of_ble_eq_true rfl), (Nat.le_of_ble_eq_true rfl)⟩ p1 p2 p3 (fun E ce q9 H1 locs1 hE9 h9 hv9 hcl hP1 hD1 hS1 => ?_) (fun r w1 H1 locs1 hI1 hP1 hD1 hS1 => ?_)
  · rcases List.mem_cons.mp hE9 with hE9 | hE9
    · subst hE9
      refine vx_catch (own := RL) (name := xN) hown [] ⟨0, 12, 15, 18⟩ [⟨0, 12, 19, 13⟩] hT (fun z hz => by cases hz) (by decide) (by decide) (hts _ (inT 1 (by decide +kernel))) (hX.1.2.2.2.2.1.use rfl) h9 hv9 hcl ?_
      refine lv_astore hx hb dL_then_15 hl (by decide) rfl (fun ls hl => ?_)
      refine lv_iconst (v := 1) hx hb dL_then_17 (by decide) ?_
      exact W.widen (Nat.le_of_ble_eq_true rfl) (Nat.le_of_ble_eq_true rfl) (hE 1 (wg, fo, o) 18 ls H1 locs1 rfl ⟨hI, rfl⟩ hP1 hD1 hS1 dL_then_18)
    · have hE9 := List.mem_singleton.mp hE9
      subst hE9
      refine vx_catch (own := RL) (name := xI) hown [⟨0, 12, 15, 18⟩] ⟨0, 12, 19, 13⟩ [] hT (fun z hz => Or.inr (by rw [List.mem_singleton.mp hz]; exact ⟨by decide, xN, hts _ (inT 1 (by decide +kernel)), hX.2.2⟩)) (by decide) (by decide) (hts _ (inT 0 (by decide +kernel))) (hX.1.2.2.2.1.use rfl) h9 hv9 hcl ?_
      refine lv_astore hx hb dL_then_19 hl (by decide) rfl (fun ls hl => ?_)
      refine lv_iconst (v := 2) hx hb dL_then_21 (by decide) ?_
      exact W.widen (Nat.le_of_ble_eq_true rfl) (Nat.le_of_ble_eq_true rfl) (hE 2 (wg, fo, o) 22 ls H1 locs1 rfl ⟨hI, rfl⟩ hP1 hD1 hS1 dL_then_22)
  · refine lv_i2l hx hb dL_then_10 rfl ?_
    refine va_last (n := 1) (f := fo) hx hb hK (pc_ hP1) (dc_ hD1) hS1 0 3 rfl rfl (show ¬ ((0 : Int32) < 0 ∨ 1 ≤ (0 : Int32).toNatClampNeg) by decide) dL_then_11 (fun H2 locs2 hP2 hD2 hS2 => ?_)
    have hP2 : va_P D vwCl ([oc ct qo (vp_updL fo (0 : Int32).toNatClampNeg r.toInt64)] ++ w1) H2 := hP2
    have hD2 : va_D A ([oc ct qo (vp_updL fo (0 : Int32).toNatClampNeg r.toInt64)] ++ w1) := hD2
    refine lv_goto (tgt := 23) hx hb dL_then_12 (by decide) ?_
    refine lv_iconst (v := 0) hx hb dL_then_23 (by decide) ?_
    exact W.widen (Nat.le_of_ble_eq_true rfl) (Nat.le_of_ble_eq_true rfl) (hE 0 (w1, (vp_updL fo (0 : Int32).toNatClampNeg r.toInt64), o) 24 ls H2 locs2 rfl ⟨hI1, rfl⟩ (pc_ hP2) (dc_ hD2) hS2 dL_then_24)
