section LC
variable {p : Program} {l : Launch} {e : Env} {s : State} {m : MethodId} {below : List Frame} {meth : Method} {c : Code} {b L : Nat} {xs : Nat → Int32} {D : va_G} {ct : Nat → ClassId} {ad sw sad : Nat → Nat} {wa : Nat} {A : Nat → Prop} {Q : State → Prop} {ag am qo : Nat} {i : Int32} {cells slots : Nat} {o : OB} {q : OS} {wg wm : va_W} {fo : Nat → Int64} {H : Heap} {locs : List Loc} {ls : Array Slot}
theorem lc_24 (F : LF p l s m c b L xs D ct ad sw sad wa A) (h0 : 0 ≤ i.toInt) (h1 : i.toInt + 6 ≤ (L : Int)) (hL : L ≤ 3072) (hc : cells + 5 ≤ 601024 ∧ slots + 30 ≤ 7293034) (K : LK p l e s m below meth c b ag am qo D ct ad sad A Q i (cells + 5) (slots + 30)) (hG : GI ct ad ag o q wg) (hM : MI ct sad am o q (fun _ => True) wm) (hP : va_P D vwCl ((wg ++ [oc ct qo fo]) ++ wm) H) (hD : va_D A ((wg ++ [oc ct qo fo]) ++ wm)) (hS : va_S A s.heap H locs) (hl : lv_has ls 7 (lvL b ag am qo i)) : W p l e room_1 s m #[Value.ref b] below meth c H locs cells slots Q (F0 m 1108 ls []) := by
  obtain ⟨hx, hb, hml, hown, hts, hK, hX, hXm, hst, hA, hXs, hbl, hbA⟩ := F
  have hl : lv_has ls 7 [(0, .ref b), (1, .ref ag), (2, .ref am), (3, .ref qo), (4, .int i)] := hl
  refine lv_aload_n hx hb dL_law_1108 rfl (lv_at hl 1 rfl) ?_
  refine lv_aload_n hx hb dL_law_1109 rfl (lv_at hl 0 rfl) ?_
  refine lv_iload hx hb dL_law_1110 (lv_at hl 4 rfl) ?_
  refine lv_iconst (v := 1) hx hb dL_law_1112 (by decide) ?_
  refine lv_iadd hx hb dL_law_1113 ?_
  refine va_sld hx hb hXs hbl hbA hS (vin_law h0 h1 hL (by decide)) dL_law_1114 ?_
  refine lv_aload_n hx hb dL_law_1115 rfl (lv_at hl 3 rfl) ?_
  refine kHS (rest := []) (X := wg ++ [oc ct qo fo]) (pl := wm) ⟨hx, hb, hml, hown, hts⟩ (w_empty l hst D ct ad sw wa ag qo H.size o q wg fo (xs (i + 1).toNatClampNeg) hG) (vx_cwSW 3 hts kw_W_empty rfl rfl rfl (by decide +kernel) ⟨(Nat.le_of_ble_eq_true rfl), (Nat.le_of_ble_eq_true rfl)⟩) (EL_ok ad sw wa) hX hK hP hD hS hA rfl hl.1 rfl (Nat.le_of_ble_eq_true rfl) dL_law_1116 ⟨by show cells + 5 ≤ 601024; omega, by show slots + 30 ≤ 7293034; omega⟩ (fun r u H locs hr hP hD hS => ?_)
  obtain ⟨w1, fo1, o1⟩ := u
  have hG1 : GI ct ad ag o q w1 := by
    have h := hr.1
    have e : o1 = o := hr.2
    rw [← e]
    exact h
  have hP : va_P D vwCl ((w1 ++ [oc ct qo fo1]) ++ wm) H := hP
  have hD : va_D A ((w1 ++ [oc ct qo fo1]) ++ wm) := hD
  refine lv_istore (lv' := [(5, .int r), (0, .ref b), (1, .ref ag), (2, .ref am), (3, .ref qo), (4, .int i)]) hx hb dL_law_1119 hl (by decide) rfl (fun ls hl => ?_)
  refine lv_aload_n hx hb dL_law_1121 rfl (lv_at hl 3 rfl) ?_
  refine lv_aload_n hx hb dL_law_1122 rfl (lv_at hl 1 rfl) ?_
  refine lv_iload hx hb dL_law_1123 (lv_at hl 5 rfl) ?_
  refine lv_iconst (v := 1) hx hb dL_law_1125 (by decide) ?_
  refine lv_iadd hx hb dL_law_1126 ?_
  refine va_sld hx hb hXs hbl hbA hS (vin_law h0 h1 hL (by decide)) dL_law_1127 ?_
  refine sM_empty (rest := []) (wx := w1 ++ [oc ct qo fo1]) ⟨hx, hb, hml, hown, hts⟩ (cwV 1 hts kw_M_empty rfl rfl rfl (by decide +kernel) ⟨(Nat.le_of_ble_eq_true rfl), (Nat.le_of_ble_eq_true rfl)⟩) hM hK (pc_ hP) (dc_ hD) hS hA hl.1 (Nat.le_of_ble_eq_true rfl) dL_law_1128 ⟨by show cells + 5 + 0 ≤ 601024; omega, by show slots + 30 + 0 ≤ 7293034; omega⟩ (xs (i + 1).toNatClampNeg) (fun r2 q2 w2 H locs hx2 hM2 hP hD hS => ?_)
  have hP := pc_ hP
  have hD := dc_ hD
  have hG2 : GI ct ad ag o q2 w1 := GI_kq hG1 hx2
  refine lv_istore (lv' := [(6, .int r2), (5, .int r), (0, .ref b), (1, .ref ag), (2, .ref am), (3, .ref qo), (4, .int i)]) hx hb dL_law_1131 hl (by decide) rfl (fun ls hl => ?_)
  refine lv_goto (tgt := 1448) hx hb dL_law_1133 (by decide) ?_
  exact W.widen (by show cells + 5 + 0 ≤ cells + 5; omega) (by show slots + 30 + 0 ≤ slots + 30; omega) (K o q2 w1 w2 fo1 H locs ls hG2 hM2 hP hD hS (lv_sub hl [2, 3, 4, 5, 6] rfl))
theorem lc_25 (F : LF p l s m c b L xs D ct ad sw sad wa A) (h0 : 0 ≤ i.toInt) (h1 : i.toInt + 6 ≤ (L : Int)) (hL : L ≤ 3072) (hc : cells + 5 ≤ 601024 ∧ slots + 30 ≤ 7293034) (K : LK p l e s m below meth c b ag am qo D ct ad sad A Q i (cells + 5) (slots + 30)) (hG : GI ct ad ag o q wg) (hM : MI ct sad am o q (fun _ => True) wm) (hP : va_P D vwCl ((wg ++ [oc ct qo fo]) ++ wm) H) (hD : va_D A ((wg ++ [oc ct qo fo]) ++ wm)) (hS : va_S A s.heap H locs) (hl : lv_has ls 7 (lvL b ag am qo i)) : W p l e room_1 s m #[Value.ref b] below meth c H locs cells slots Q (F0 m 1136 ls []) := by
  obtain ⟨hx, hb, hml, hown, hts, hK, hX, hXm, hst, hA, hXs, hbl, hbA⟩ := F
  have hl : lv_has ls 7 [(0, .ref b), (1, .ref ag), (2, .ref am), (3, .ref qo), (4, .int i)] := hl
  refine lv_aload_n hx hb dL_law_1136 rfl (lv_at hl 1 rfl) ?_
  refine sG_homes (rest := []) (wx := [oc ct qo fo] ++ wm) ⟨hx, hb, hml, hown, hts⟩ (cwV 0 hts kw_G_homes rfl rfl rfl (by decide +kernel) ⟨(Nat.le_of_ble_eq_true rfl), (Nat.le_of_ble_eq_true rfl)⟩) hG hK (as1 hP) (ad1 hD) hS hA hl.1 (Nat.le_of_ble_eq_true rfl) dL_law_1137 ⟨by show cells + 0 ≤ 601024; omega, by show slots + 0 ≤ 7293034; omega⟩ (fun r w1 H locs hG1 hP hD hS => ?_)
  have hP := as2 hP
  have hD := ad2 hD
  refine lv_pop hx hb dL_law_1140 rfl ?_
  refine lv_aload_n hx hb dL_law_1141 rfl (lv_at hl 2 rfl) ?_
  refine sM_homes (rest := []) (wx := w1 ++ [oc ct qo fo]) ⟨hx, hb, hml, hown, hts⟩ (cwV 0 hts kw_M_homes rfl rfl rfl (by decide +kernel) ⟨(Nat.le_of_ble_eq_true rfl), (Nat.le_of_ble_eq_true rfl)⟩) hM hK (pc_ hP) (dc_ hD) hS hA hl.1 (Nat.le_of_ble_eq_true rfl) dL_law_1142 ⟨by show cells + 0 ≤ 601024; omega, by show slots + 0 ≤ 7293034; omega⟩ (fun r2 q2 w2 H locs hx2 hM2 hP hD hS => ?_)
  have hP := pc_ hP
  have hD := dc_ hD
  have hG2 : GI ct ad ag o q2 w1 := GI_kq hG1 hx2
  refine lv_pop hx hb dL_law_1145 rfl ?_
  refine lv_goto (tgt := 1448) hx hb dL_law_1146 (by decide) ?_
  exact W.widen (by show cells + 0 ≤ cells + 5; omega) (by show slots + 0 ≤ slots + 30; omega) (K o q2 w1 w2 fo H locs ls hG2 hM2 hP hD hS (lv_sub hl [0, 1, 2, 3, 4] rfl))
theorem lc_26 (F : LF p l s m c b L xs D ct ad sw sad wa A) (h0 : 0 ≤ i.toInt) (h1 : i.toInt + 6 ≤ (L : Int)) (hL : L ≤ 3072) (hc : cells + 5 ≤ 601024 ∧ slots + 30 ≤ 7293034) (K : LK p l e s m below meth c b ag am qo D ct ad sad A Q i (cells + 5) (slots + 30)) (hG : GI ct ad ag o q wg) (hM : MI ct sad am o q (fun _ => True) wm) (hP : va_P D vwCl ((wg ++ [oc ct qo fo]) ++ wm) H) (hD : va_D A ((wg ++ [oc ct qo fo]) ++ wm)) (hS : va_S A s.heap H locs) (hl : lv_has ls 7 (lvL b ag am qo i)) : W p l e room_1 s m #[Value.ref b] below meth c H locs cells slots Q (F0 m 1149 ls []) := by
  obtain ⟨hx, hb, hml, hown, hts, hK, hX, hXm, hst, hA, hXs, hbl, hbA⟩ := F
  have hl : lv_has ls 7 [(0, .ref b), (1, .ref ag), (2, .ref am), (3, .ref qo), (4, .int i)] := hl
  refine lv_aload_n hx hb dL_law_1149 rfl (lv_at hl 1 rfl) ?_
  refine lv_aload_n hx hb dL_law_1150 rfl (lv_at hl 0 rfl) ?_
  refine lv_iload hx hb dL_law_1151 (lv_at hl 4 rfl) ?_
  refine lv_iconst (v := 1) hx hb dL_law_1153 (by decide) ?_
  refine lv_iadd hx hb dL_law_1154 ?_
  refine va_sld hx hb hXs hbl hbA hS (vin_law h0 h1 hL (by decide)) dL_law_1155 ?_
  refine lv_aload_n hx hb dL_law_1156 rfl (lv_at hl 0 rfl) ?_
  refine lv_iload hx hb dL_law_1157 (lv_at hl 4 rfl) ?_
  refine lv_iconst (v := 2) hx hb dL_law_1159 (by decide) ?_
  refine lv_iadd hx hb dL_law_1160 ?_
  refine va_sld hx hb hXs hbl hbA hS (vin_law h0 h1 hL (by decide)) dL_law_1161 ?_
  refine lv_aload_n hx hb dL_law_1162 rfl (lv_at hl 0 rfl) ?_
  refine lv_iload hx hb dL_law_1163 (lv_at hl 4 rfl) ?_
  refine lv_iconst (v := 3) hx hb dL_law_1165 (by decide) ?_
  refine lv_iadd hx hb dL_law_1166 ?_
  refine va_sld hx hb hXs hbl hbA hS (vin_law h0 h1 hL (by decide)) dL_law_1167 ?_
  refine lv_aload_n hx hb dL_law_1168 rfl (lv_at hl 3 rfl) ?_
  refine kHS (rest := []) (X := wg ++ [oc ct qo fo]) (pl := wm) ⟨hx, hb, hml, hown, hts⟩ (w_see l hst D ct ad sw wa ag qo H.size o q wg fo (xs (i + 1).toNatClampNeg) (xs (i + 2).toNatClampNeg) (xs (i + 3).toNatClampNeg) hG) (vx_cwSW 5 hts kw_W_see rfl rfl rfl (by decide +kernel) ⟨(Nat.le_of_ble_eq_true rfl), (Nat.le_of_ble_eq_true rfl)⟩) (EL_ok ad sw wa) hX hK hP hD hS hA rfl hl.1 rfl (Nat.le_of_ble_eq_true rfl) dL_law_1169 ⟨by show cells + 5 ≤ 601024; omega, by show slots + 30 ≤ 7293034; omega⟩ (fun r u H locs hr hP hD hS => ?_)
  obtain ⟨w1, fo1, o1⟩ := u
  have hF := hr.1
  have e9 : o1 = o := hr.2
  dsimp only at hF
  rw [e9] at hF
  have hP : va_P D vwCl ((w1 ++ [oc ct qo fo1]) ++ wm) H := hP
  have hD : va_D A ((w1 ++ [oc ct qo fo1]) ++ wm) := hD
  refine lv_istore (lv' := [(5, .int r), (0, .ref b), (1, .ref ag), (2, .ref am), (3, .ref qo), (4, .int i)]) hx hb dL_law_1172 hl (by decide) rfl (fun ls hl => ?_)
  refine lv_aload_n hx hb dL_law_1174 rfl (lv_at hl 3 rfl) ?_
  refine lv_aload_n hx hb dL_law_1175 rfl (lv_at hl 1 rfl) ?_
  refine lv_iload hx hb dL_law_1176 (lv_at hl 5 rfl) ?_
  refine lv_iconst (v := 1) hx hb dL_law_1178 (by decide) ?_
  refine lv_iadd hx hb dL_law_1179 ?_
  refine va_sld hx hb hXs hbl hbA hS (vin_law h0 h1 hL (by decide)) dL_law_1180 ?_
  refine lv_aload_n hx hb dL_law_1181 rfl (lv_at hl 1 rfl) ?_
  refine lv_iload hx hb dL_law_1182 (lv_at hl 5 rfl) ?_
  refine lv_iconst (v := 2) hx hb dL_law_1184 (by decide) ?_
  refine lv_iadd hx hb dL_law_1185 ?_
  refine va_sld hx hb hXs hbl hbA hS (vin_law h0 h1 hL (by decide)) dL_law_1186 ?_
  refine lv_aload_n hx hb dL_law_1187 rfl (lv_at hl 1 rfl) ?_
  refine lv_iload hx hb dL_law_1188 (lv_at hl 5 rfl) ?_
  refine lv_iconst (v := 3) hx hb dL_law_1190 (by decide) ?_
  refine lv_iadd hx hb dL_law_1191 ?_
  refine va_sld hx hb hXs hbl hbA hS (vin_law h0 h1 hL (by decide)) dL_law_1192 ?_
  refine sM_see (rest := []) (wx := w1 ++ [oc ct qo fo1]) ⟨hx, hb, hml, hown, hts⟩ (cwV 3 hts kw_M_see rfl rfl rfl (by decide +kernel) ⟨(Nat.le_of_ble_eq_true rfl), (Nat.le_of_ble_eq_true rfl)⟩) hM hK (pc_ hP) (dc_ hD) hS hA hl.1 (Nat.le_of_ble_eq_true rfl) dL_law_1193 ⟨by show cells + 5 + 0 ≤ 601024; omega, by show slots + 30 + 0 ≤ 7293034; omega⟩ (xs (i + 1).toNatClampNeg) (xs (i + 2).toNatClampNeg) (xs (i + 3).toNatClampNeg) (fun r2 c2 q2 w2 H locs hx2 hM2 hP hD hS => ?_)
  have hP := pc_ hP
  have hD := dc_ hD
  have hG2 : GI ct ad ag o q2 w1 := hF c2 r2 q2 hx2
  refine lv_istore (lv' := [(6, .int r2), (5, .int r), (0, .ref b), (1, .ref ag), (2, .ref am), (3, .ref qo), (4, .int i)]) hx hb dL_law_1196 hl (by decide) rfl (fun ls hl => ?_)
  refine lv_goto (tgt := 1448) hx hb dL_law_1198 (by decide) ?_
  exact W.widen (by show cells + 5 + 0 ≤ cells + 5; omega) (by show slots + 30 + 0 ≤ slots + 30; omega) (K o q2 w1 w2 fo1 H locs ls hG2 hM2 hP hD hS (lv_sub hl [2, 3, 4, 5, 6] rfl))
theorem lc_27 (F : LF p l s m c b L xs D ct ad sw sad wa A) (h0 : 0 ≤ i.toInt) (h1 : i.toInt + 6 ≤ (L : Int)) (hL : L ≤ 3072) (hc : cells + 5 ≤ 601024 ∧ slots + 30 ≤ 7293034) (K : LK p l e s m below meth c b ag am qo D ct ad sad A Q i (cells + 5) (slots + 30)) (hG : GI ct ad ag o q wg) (hM : MI ct sad am o q (fun _ => True) wm) (hP : va_P D vwCl ((wg ++ [oc ct qo fo]) ++ wm) H) (hD : va_D A ((wg ++ [oc ct qo fo]) ++ wm)) (hS : va_S A s.heap H locs) (hl : lv_has ls 7 (lvL b ag am qo i)) : W p l e room_1 s m #[Value.ref b] below meth c H locs cells slots Q (F0 m 1201 ls []) := by
  obtain ⟨hx, hb, hml, hown, hts, hK, hX, hXm, hst, hA, hXs, hbl, hbA⟩ := F
  have hl : lv_has ls 7 [(0, .ref b), (1, .ref ag), (2, .ref am), (3, .ref qo), (4, .int i)] := hl
  refine lv_aload_n hx hb dL_law_1201 rfl (lv_at hl 1 rfl) ?_
  refine lv_aload_n hx hb dL_law_1202 rfl (lv_at hl 0 rfl) ?_
  refine lv_iload hx hb dL_law_1203 (lv_at hl 4 rfl) ?_
  refine lv_iconst (v := 1) hx hb dL_law_1205 (by decide) ?_
  refine lv_iadd hx hb dL_law_1206 ?_
  refine va_sld hx hb hXs hbl hbA hS (vin_law h0 h1 hL (by decide)) dL_law_1207 ?_
  refine lv_aload_n hx hb dL_law_1208 rfl (lv_at hl 3 rfl) ?_
  refine kHS (rest := []) (X := wg ++ [oc ct qo fo]) (pl := wm) ⟨hx, hb, hml, hown, hts⟩ (w_old l hst D ct ad sw wa ag qo H.size o q wg fo (xs (i + 1).toNatClampNeg) hG) (vx_cwSW 3 hts kw_W_old rfl rfl rfl (by decide +kernel) ⟨(Nat.le_of_ble_eq_true rfl), (Nat.le_of_ble_eq_true rfl)⟩) (EL_ok ad sw wa) hX hK hP hD hS hA rfl hl.1 rfl (Nat.le_of_ble_eq_true rfl) dL_law_1209 ⟨by show cells + 5 ≤ 601024; omega, by show slots + 30 ≤ 7293034; omega⟩ (fun r u H locs hr hP hD hS => ?_)
  obtain ⟨w1, fo1, o1⟩ := u
  have hG1 : GI ct ad ag o q w1 := by
    have h := hr.1
    have e : o1 = o := hr.2
    rw [← e]
    exact h
  have hP : va_P D vwCl ((w1 ++ [oc ct qo fo1]) ++ wm) H := hP
  have hD : va_D A ((w1 ++ [oc ct qo fo1]) ++ wm) := hD
  refine lv_istore (lv' := [(5, .int r), (0, .ref b), (1, .ref ag), (2, .ref am), (3, .ref qo), (4, .int i)]) hx hb dL_law_1212 hl (by decide) rfl (fun ls hl => ?_)
  refine lv_aload_n hx hb dL_law_1214 rfl (lv_at hl 3 rfl) ?_
  refine lv_aload_n hx hb dL_law_1215 rfl (lv_at hl 1 rfl) ?_
  refine lv_iload hx hb dL_law_1216 (lv_at hl 5 rfl) ?_
  refine lv_iconst (v := 1) hx hb dL_law_1218 (by decide) ?_
  refine lv_iadd hx hb dL_law_1219 ?_
  refine va_sld hx hb hXs hbl hbA hS (vin_law h0 h1 hL (by decide)) dL_law_1220 ?_
  refine sM_old (rest := []) (wx := w1 ++ [oc ct qo fo1]) ⟨hx, hb, hml, hown, hts⟩ (cwV 1 hts kw_M_old rfl rfl rfl (by decide +kernel) ⟨(Nat.le_of_ble_eq_true rfl), (Nat.le_of_ble_eq_true rfl)⟩) hM hK (pc_ hP) (dc_ hD) hS hA hl.1 (Nat.le_of_ble_eq_true rfl) dL_law_1221 ⟨by show cells + 5 + 0 ≤ 601024; omega, by show slots + 30 + 0 ≤ 7293034; omega⟩ (xs (i + 1).toNatClampNeg) (fun r2 q2 w2 H locs hx2 hM2 hP hD hS => ?_)
  have hP := pc_ hP
  have hD := dc_ hD
  have hG2 : GI ct ad ag o q2 w1 := GI_kq hG1 hx2
  refine lv_istore (lv' := [(6, .int r2), (5, .int r), (0, .ref b), (1, .ref ag), (2, .ref am), (3, .ref qo), (4, .int i)]) hx hb dL_law_1224 hl (by decide) rfl (fun ls hl => ?_)
  refine lv_goto (tgt := 1448) hx hb dL_law_1226 (by decide) ?_
  exact W.widen (by show cells + 5 + 0 ≤ cells + 5; omega) (by show slots + 30 + 0 ≤ slots + 30; omega) (K o q2 w1 w2 fo1 H locs ls hG2 hM2 hP hD hS (lv_sub hl [2, 3, 4, 5, 6] rfl))
theorem lc_28 (F : LF p l s m c b L xs D ct ad sw sad wa A) (h0 : 0 ≤ i.toInt) (h1 : i.toInt + 6 ≤ (L : Int)) (hL : L ≤ 3072) (hc : cells + 5 ≤ 601024 ∧ slots + 30 ≤ 7293034) (K : LK p l e s m below meth c b ag am qo D ct ad sad A Q i (cells + 5) (slots + 30)) (hG : GI ct ad ag o q wg) (hM : MI ct sad am o q (fun _ => True) wm) (hP : va_P D vwCl ((wg ++ [oc ct qo fo]) ++ wm) H) (hD : va_D A ((wg ++ [oc ct qo fo]) ++ wm)) (hS : va_S A s.heap H locs) (hl : lv_has ls 7 (lvL b ag am qo i)) : W p l e room_1 s m #[Value.ref b] below meth c H locs cells slots Q (F0 m 1229 ls []) := by
  obtain ⟨hx, hb, hml, hown, hts, hK, hX, hXm, hst, hA, hXs, hbl, hbA⟩ := F
  have hl : lv_has ls 7 [(0, .ref b), (1, .ref ag), (2, .ref am), (3, .ref qo), (4, .int i)] := hl
  refine lv_aload_n hx hb dL_law_1229 rfl (lv_at hl 1 rfl) ?_
  refine lv_aload_n hx hb dL_law_1230 rfl (lv_at hl 0 rfl) ?_
  refine lv_iload hx hb dL_law_1231 (lv_at hl 4 rfl) ?_
  refine lv_iconst (v := 1) hx hb dL_law_1233 (by decide) ?_
  refine lv_iadd hx hb dL_law_1234 ?_
  refine va_sld hx hb hXs hbl hbA hS (vin_law h0 h1 hL (by decide)) dL_law_1235 ?_
  refine lv_aload_n hx hb dL_law_1236 rfl (lv_at hl 3 rfl) ?_
  refine kHS (rest := []) (X := wg ++ [oc ct qo fo]) (pl := wm) ⟨hx, hb, hml, hown, hts⟩ (w_look l hst D ct ad sw wa ag qo H.size o q wg fo (xs (i + 1).toNatClampNeg) hG) (vx_cwSW 3 hts kw_W_look rfl rfl rfl (by decide +kernel) ⟨(Nat.le_of_ble_eq_true rfl), (Nat.le_of_ble_eq_true rfl)⟩) (EL_ok ad sw wa) hX hK hP hD hS hA rfl hl.1 rfl (Nat.le_of_ble_eq_true rfl) dL_law_1237 ⟨by show cells + 5 ≤ 601024; omega, by show slots + 30 ≤ 7293034; omega⟩ (fun r u H locs hr hP hD hS => ?_)
  obtain ⟨w1, fo1, o1⟩ := u
  have hG1 : GI ct ad ag o q w1 := by
    have h := hr.1
    have e : o1 = o := hr.2
    rw [← e]
    exact h
  have hP : va_P D vwCl ((w1 ++ [oc ct qo fo1]) ++ wm) H := hP
  have hD : va_D A ((w1 ++ [oc ct qo fo1]) ++ wm) := hD
  refine lv_istore (lv' := [(5, .int r), (0, .ref b), (1, .ref ag), (2, .ref am), (3, .ref qo), (4, .int i)]) hx hb dL_law_1240 hl (by decide) rfl (fun ls hl => ?_)
  refine lv_aload_n hx hb dL_law_1242 rfl (lv_at hl 3 rfl) ?_
  refine lv_aload_n hx hb dL_law_1243 rfl (lv_at hl 1 rfl) ?_
  refine lv_iload hx hb dL_law_1244 (lv_at hl 5 rfl) ?_
  refine lv_iconst (v := 1) hx hb dL_law_1246 (by decide) ?_
  refine lv_iadd hx hb dL_law_1247 ?_
  refine va_sld hx hb hXs hbl hbA hS (vin_law h0 h1 hL (by decide)) dL_law_1248 ?_
  refine sM_look (rest := []) (wx := w1 ++ [oc ct qo fo1]) ⟨hx, hb, hml, hown, hts⟩ (cwV 1 hts kw_M_look rfl rfl rfl (by decide +kernel) ⟨(Nat.le_of_ble_eq_true rfl), (Nat.le_of_ble_eq_true rfl)⟩) hM hK (pc_ hP) (dc_ hD) hS hA hl.1 (Nat.le_of_ble_eq_true rfl) dL_law_1249 ⟨by show cells + 5 + 0 ≤ 601024; omega, by show slots + 30 + 0 ≤ 7293034; omega⟩ (xs (i + 1).toNatClampNeg) (fun r2 q2 w2 H locs hx2 hM2 hP hD hS => ?_)
  have hP := pc_ hP
  have hD := dc_ hD
  have hG2 : GI ct ad ag o q2 w1 := GI_kq hG1 hx2
  refine lv_istore (lv' := [(6, .int r2), (5, .int r), (0, .ref b), (1, .ref ag), (2, .ref am), (3, .ref qo), (4, .int i)]) hx hb dL_law_1252 hl (by decide) rfl (fun ls hl => ?_)
  refine lv_goto (tgt := 1448) hx hb dL_law_1254 (by decide) ?_
  exact W.widen (by show cells + 5 + 0 ≤ cells + 5; omega) (by show slots + 30 + 0 ≤ slots + 30; omega) (K o q2 w1 w2 fo1 H locs ls hG2 hM2 hP hD hS (lv_sub hl [2, 3, 4, 5, 6] rfl))
theorem lc_29 (F : LF p l s m c b L xs D ct ad sw sad wa A) (h0 : 0 ≤ i.toInt) (h1 : i.toInt + 6 ≤ (L : Int)) (hL : L ≤ 3072) (hc : cells + 5 ≤ 601024 ∧ slots + 30 ≤ 7293034) (K : LK p l e s m below meth c b ag am qo D ct ad sad A Q i (cells + 5) (slots + 30)) (hG : GI ct ad ag o q wg) (hM : MI ct sad am o q (fun _ => True) wm) (hP : va_P D vwCl ((wg ++ [oc ct qo fo]) ++ wm) H) (hD : va_D A ((wg ++ [oc ct qo fo]) ++ wm)) (hS : va_S A s.heap H locs) (hl : lv_has ls 7 (lvL b ag am qo i)) : W p l e room_1 s m #[Value.ref b] below meth c H locs cells slots Q (F0 m 1257 ls []) := by
  obtain ⟨hx, hb, hml, hown, hts, hK, hX, hXm, hst, hA, hXs, hbl, hbA⟩ := F
  have hl : lv_has ls 7 [(0, .ref b), (1, .ref ag), (2, .ref am), (3, .ref qo), (4, .int i)] := hl
  refine lv_aload_n hx hb dL_law_1257 rfl (lv_at hl 1 rfl) ?_
  refine sG_forget (rest := []) (wx := [oc ct qo fo] ++ wm) ⟨hx, hb, hml, hown, hts⟩ (cwV 0 hts kw_G_forget rfl rfl rfl (by decide +kernel) ⟨(Nat.le_of_ble_eq_true rfl), (Nat.le_of_ble_eq_true rfl)⟩) hG hK (as1 hP) (ad1 hD) hS hA hl.1 (Nat.le_of_ble_eq_true rfl) dL_law_1258 ⟨by show cells + 0 ≤ 601024; omega, by show slots + 0 ≤ 7293034; omega⟩ (fun w1 H locs hF hP hD hS => ?_)
  have hP := as2 hP
  have hD := ad2 hD
  refine lv_aload_n hx hb dL_law_1261 rfl (lv_at hl 2 rfl) ?_
  refine sM_forget (rest := []) (wx := w1 ++ [oc ct qo fo]) ⟨hx, hb, hml, hown, hts⟩ (cwV 0 hts kw_M_forget rfl rfl rfl (by decide +kernel) ⟨(Nat.le_of_ble_eq_true rfl), (Nat.le_of_ble_eq_true rfl)⟩) hM hK (pc_ hP) (dc_ hD) hS hA hl.1 (Nat.le_of_ble_eq_true rfl) dL_law_1262 ⟨by show cells + 0 + 0 ≤ 601024; omega, by show slots + 0 + 0 ≤ 7293034; omega⟩ (fun c2 q2 w2 H locs hx2 hM2 hP hD hS => ?_)
  have hP := pc_ hP
  have hD := dc_ hD
  have hG2 : GI ct ad ag o q2 w1 := (hF c2 q2 hx2).2
  refine lv_goto (tgt := 1448) hx hb dL_law_1265 (by decide) ?_
  exact W.widen (by show cells + 0 + 0 ≤ cells + 5; omega) (by show slots + 0 + 0 ≤ slots + 30; omega) (K o q2 w1 w2 fo H locs ls hG2 hM2 hP hD hS (lv_sub hl [0, 1, 2, 3, 4] rfl))
theorem lc_30 (F : LF p l s m c b L xs D ct ad sw sad wa A) (h0 : 0 ≤ i.toInt) (h1 : i.toInt + 6 ≤ (L : Int)) (hL : L ≤ 3072) (hc : cells + 5 ≤ 601024 ∧ slots + 30 ≤ 7293034) (K : LK p l e s m below meth c b ag am qo D ct ad sad A Q i (cells + 5) (slots + 30)) (hG : GI ct ad ag o q wg) (hM : MI ct sad am o q (fun _ => True) wm) (hP : va_P D vwCl ((wg ++ [oc ct qo fo]) ++ wm) H) (hD : va_D A ((wg ++ [oc ct qo fo]) ++ wm)) (hS : va_S A s.heap H locs) (hl : lv_has ls 7 (lvL b ag am qo i)) : W p l e room_1 s m #[Value.ref b] below meth c H locs cells slots Q (F0 m 1268 ls []) := by
  obtain ⟨hx, hb, hml, hown, hts, hK, hX, hXm, hst, hA, hXs, hbl, hbA⟩ := F
  have hl : lv_has ls 7 [(0, .ref b), (1, .ref ag), (2, .ref am), (3, .ref qo), (4, .int i)] := hl
  refine lv_aload_n hx hb dL_law_1268 rfl (lv_at hl 1 rfl) ?_
  refine lv_aload_n hx hb dL_law_1269 rfl (lv_at hl 0 rfl) ?_
  refine lv_iload hx hb dL_law_1270 (lv_at hl 4 rfl) ?_
  refine lv_iconst (v := 1) hx hb dL_law_1272 (by decide) ?_
  refine lv_iadd hx hb dL_law_1273 ?_
  refine va_sld hx hb hXs hbl hbA hS (vin_law h0 h1 hL (by decide)) dL_law_1274 ?_
  refine lv_aload_n hx hb dL_law_1275 rfl (lv_at hl 0 rfl) ?_
  refine lv_iload hx hb dL_law_1276 (lv_at hl 4 rfl) ?_
  refine lv_iconst (v := 2) hx hb dL_law_1278 (by decide) ?_
  refine lv_iadd hx hb dL_law_1279 ?_
  refine va_sld hx hb hXs hbl hbA hS (vin_law h0 h1 hL (by decide)) dL_law_1280 ?_
  refine lv_aload_n hx hb dL_law_1281 rfl (lv_at hl 0 rfl) ?_
  refine lv_iload hx hb dL_law_1282 (lv_at hl 4 rfl) ?_
  refine lv_iconst (v := 3) hx hb dL_law_1284 (by decide) ?_
  refine lv_iadd hx hb dL_law_1285 ?_
  refine va_sld hx hb hXs hbl hbA hS (vin_law h0 h1 hL (by decide)) dL_law_1286 ?_
  refine lv_aload_n hx hb dL_law_1287 rfl (lv_at hl 3 rfl) ?_
  refine kHS (rest := []) (X := wg ++ [oc ct qo fo]) (pl := wm) ⟨hx, hb, hml, hown, hts⟩ (w_wet l hst D ct ad sw wa ag qo H.size o q wg fo (xs (i + 1).toNatClampNeg) (xs (i + 2).toNatClampNeg) (xs (i + 3).toNatClampNeg) hG) (vx_cwSW 5 hts kw_W_wet rfl rfl rfl (by decide +kernel) ⟨(Nat.le_of_ble_eq_true rfl), (Nat.le_of_ble_eq_true rfl)⟩) (EL_ok ad sw wa) hX hK hP hD hS hA rfl hl.1 rfl (Nat.le_of_ble_eq_true rfl) dL_law_1288 ⟨by show cells + 5 ≤ 601024; omega, by show slots + 30 ≤ 7293034; omega⟩ (fun r u H locs hr hP hD hS => ?_)
  obtain ⟨w1, fo1, o1⟩ := u
  have hG1 : GI ct ad ag o q w1 := by
    have h := hr.1
    have e : o1 = o := hr.2
    rw [← e]
    exact h
  have hP : va_P D vwCl ((w1 ++ [oc ct qo fo1]) ++ wm) H := hP
  have hD : va_D A ((w1 ++ [oc ct qo fo1]) ++ wm) := hD
  refine lv_istore (lv' := [(5, .int r), (0, .ref b), (1, .ref ag), (2, .ref am), (3, .ref qo), (4, .int i)]) hx hb dL_law_1291 hl (by decide) rfl (fun ls hl => ?_)
  refine lv_aload_n hx hb dL_law_1293 rfl (lv_at hl 3 rfl) ?_
  refine lv_aload_n hx hb dL_law_1294 rfl (lv_at hl 1 rfl) ?_
  refine lv_iload hx hb dL_law_1295 (lv_at hl 5 rfl) ?_
  refine lv_iconst (v := 1) hx hb dL_law_1297 (by decide) ?_
  refine lv_iadd hx hb dL_law_1298 ?_
  refine va_sld hx hb hXs hbl hbA hS (vin_law h0 h1 hL (by decide)) dL_law_1299 ?_
  refine lv_aload_n hx hb dL_law_1300 rfl (lv_at hl 1 rfl) ?_
  refine lv_iload hx hb dL_law_1301 (lv_at hl 5 rfl) ?_
  refine lv_iconst (v := 2) hx hb dL_law_1303 (by decide) ?_
  refine lv_iadd hx hb dL_law_1304 ?_
  refine va_sld hx hb hXs hbl hbA hS (vin_law h0 h1 hL (by decide)) dL_law_1305 ?_
  refine lv_aload_n hx hb dL_law_1306 rfl (lv_at hl 1 rfl) ?_
  refine lv_iload hx hb dL_law_1307 (lv_at hl 5 rfl) ?_
  refine lv_iconst (v := 3) hx hb dL_law_1309 (by decide) ?_
  refine lv_iadd hx hb dL_law_1310 ?_
  refine va_sld hx hb hXs hbl hbA hS (vin_law h0 h1 hL (by decide)) dL_law_1311 ?_
  refine sM_wet (rest := []) (wx := w1 ++ [oc ct qo fo1]) ⟨hx, hb, hml, hown, hts⟩ (cwV 3 hts kw_M_wet rfl rfl rfl (by decide +kernel) ⟨(Nat.le_of_ble_eq_true rfl), (Nat.le_of_ble_eq_true rfl)⟩) hM hK (pc_ hP) (dc_ hD) hS hA hl.1 (Nat.le_of_ble_eq_true rfl) dL_law_1312 ⟨by show cells + 5 + 0 ≤ 601024; omega, by show slots + 30 + 0 ≤ 7293034; omega⟩ (xs (i + 1).toNatClampNeg) (xs (i + 2).toNatClampNeg) (xs (i + 3).toNatClampNeg) (fun r2 q2 w2 H locs hx2 hM2 hP hD hS => ?_)
  have hP := pc_ hP
  have hD := dc_ hD
  have hG2 : GI ct ad ag o q2 w1 := GI_kq hG1 hx2
  refine lv_istore (lv' := [(6, .int r2), (5, .int r), (0, .ref b), (1, .ref ag), (2, .ref am), (3, .ref qo), (4, .int i)]) hx hb dL_law_1315 hl (by decide) rfl (fun ls hl => ?_)
  refine lv_goto (tgt := 1448) hx hb dL_law_1317 (by decide) ?_
  exact W.widen (by show cells + 5 + 0 ≤ cells + 5; omega) (by show slots + 30 + 0 ≤ slots + 30; omega) (K o q2 w1 w2 fo1 H locs ls hG2 hM2 hP hD hS (lv_sub hl [2, 3, 4, 5, 6] rfl))
theorem lc_31 (F : LF p l s m c b L xs D ct ad sw sad wa A) (h0 : 0 ≤ i.toInt) (h1 : i.toInt + 6 ≤ (L : Int)) (hL : L ≤ 3072) (hc : cells + 5 ≤ 601024 ∧ slots + 30 ≤ 7293034) (K : LK p l e s m below meth c b ag am qo D ct ad sad A Q i (cells + 5) (slots + 30)) (hG : GI ct ad ag o q wg) (hM : MI ct sad am o q (fun _ => True) wm) (hP : va_P D vwCl ((wg ++ [oc ct qo fo]) ++ wm) H) (hD : va_D A ((wg ++ [oc ct qo fo]) ++ wm)) (hS : va_S A s.heap H locs) (hl : lv_has ls 7 (lvL b ag am qo i)) : W p l e room_1 s m #[Value.ref b] below meth c H locs cells slots Q (F0 m 1320 ls []) := by
  obtain ⟨hx, hb, hml, hown, hts, hK, hX, hXm, hst, hA, hXs, hbl, hbA⟩ := F
  have hl : lv_has ls 7 [(0, .ref b), (1, .ref ag), (2, .ref am), (3, .ref qo), (4, .int i)] := hl
  refine lv_aload_n hx hb dL_law_1320 rfl (lv_at hl 1 rfl) ?_
  refine lv_aload_n hx hb dL_law_1321 rfl (lv_at hl 0 rfl) ?_
  refine lv_iload hx hb dL_law_1322 (lv_at hl 4 rfl) ?_
  refine lv_iconst (v := 1) hx hb dL_law_1324 (by decide) ?_
  refine lv_iadd hx hb dL_law_1325 ?_
  refine va_sld hx hb hXs hbl hbA hS (vin_law h0 h1 hL (by decide)) dL_law_1326 ?_
  refine lv_aload_n hx hb dL_law_1327 rfl (lv_at hl 0 rfl) ?_
  refine lv_iload hx hb dL_law_1328 (lv_at hl 4 rfl) ?_
  refine lv_iconst (v := 2) hx hb dL_law_1330 (by decide) ?_
  refine lv_iadd hx hb dL_law_1331 ?_
  refine va_sld hx hb hXs hbl hbA hS (vin_law h0 h1 hL (by decide)) dL_law_1332 ?_
  refine lv_aload_n hx hb dL_law_1333 rfl (lv_at hl 0 rfl) ?_
  refine lv_iload hx hb dL_law_1334 (lv_at hl 4 rfl) ?_
  refine lv_iconst (v := 3) hx hb dL_law_1336 (by decide) ?_
  refine lv_iadd hx hb dL_law_1337 ?_
  refine va_sld hx hb hXs hbl hbA hS (vin_law h0 h1 hL (by decide)) dL_law_1338 ?_
  refine lv_aload_n hx hb dL_law_1339 rfl (lv_at hl 3 rfl) ?_
  refine kHS (rest := []) (X := wg ++ [oc ct qo fo]) (pl := wm) ⟨hx, hb, hml, hown, hts⟩ (w_game l hst D ct ad sw wa ag qo H.size o q wg fo (xs (i + 1).toNatClampNeg) (xs (i + 2).toNatClampNeg) (xs (i + 3).toNatClampNeg) hG) (vx_cwSW 5 hts kw_W_game rfl rfl rfl (by decide +kernel) ⟨(Nat.le_of_ble_eq_true rfl), (Nat.le_of_ble_eq_true rfl)⟩) (EL_ok ad sw wa) hX hK hP hD hS hA rfl hl.1 rfl (Nat.le_of_ble_eq_true rfl) dL_law_1340 ⟨by show cells + 5 ≤ 601024; omega, by show slots + 30 ≤ 7293034; omega⟩ (fun r u H locs hr hP hD hS => ?_)
  obtain ⟨w1, fo1, o1⟩ := u
  have hG1 : GI ct ad ag o q w1 := by
    have h := hr.1
    have e : o1 = o := hr.2
    rw [← e]
    exact h
  have hP : va_P D vwCl ((w1 ++ [oc ct qo fo1]) ++ wm) H := hP
  have hD : va_D A ((w1 ++ [oc ct qo fo1]) ++ wm) := hD
  refine lv_istore (lv' := [(5, .int r), (0, .ref b), (1, .ref ag), (2, .ref am), (3, .ref qo), (4, .int i)]) hx hb dL_law_1343 hl (by decide) rfl (fun ls hl => ?_)
  refine lv_aload_n hx hb dL_law_1345 rfl (lv_at hl 3 rfl) ?_
  refine lv_aload_n hx hb dL_law_1346 rfl (lv_at hl 1 rfl) ?_
  refine lv_iload hx hb dL_law_1347 (lv_at hl 5 rfl) ?_
  refine lv_iconst (v := 1) hx hb dL_law_1349 (by decide) ?_
  refine lv_iadd hx hb dL_law_1350 ?_
  refine va_sld hx hb hXs hbl hbA hS (vin_law h0 h1 hL (by decide)) dL_law_1351 ?_
  refine lv_aload_n hx hb dL_law_1352 rfl (lv_at hl 1 rfl) ?_
  refine lv_iload hx hb dL_law_1353 (lv_at hl 5 rfl) ?_
  refine lv_iconst (v := 2) hx hb dL_law_1355 (by decide) ?_
  refine lv_iadd hx hb dL_law_1356 ?_
  refine va_sld hx hb hXs hbl hbA hS (vin_law h0 h1 hL (by decide)) dL_law_1357 ?_
  refine lv_aload_n hx hb dL_law_1358 rfl (lv_at hl 1 rfl) ?_
  refine lv_iload hx hb dL_law_1359 (lv_at hl 5 rfl) ?_
  refine lv_iconst (v := 3) hx hb dL_law_1361 (by decide) ?_
  refine lv_iadd hx hb dL_law_1362 ?_
  refine va_sld hx hb hXs hbl hbA hS (vin_law h0 h1 hL (by decide)) dL_law_1363 ?_
  refine sM_game (rest := []) (wx := w1 ++ [oc ct qo fo1]) ⟨hx, hb, hml, hown, hts⟩ (cwV 3 hts kw_M_game rfl rfl rfl (by decide +kernel) ⟨(Nat.le_of_ble_eq_true rfl), (Nat.le_of_ble_eq_true rfl)⟩) hM hK (pc_ hP) (dc_ hD) hS hA hl.1 (Nat.le_of_ble_eq_true rfl) dL_law_1364 ⟨by show cells + 5 + 0 ≤ 601024; omega, by show slots + 30 + 0 ≤ 7293034; omega⟩ (xs (i + 1).toNatClampNeg) (xs (i + 2).toNatClampNeg) (xs (i + 3).toNatClampNeg) (fun r2 q2 w2 H locs hx2 hM2 hP hD hS => ?_)
  have hP := pc_ hP
  have hD := dc_ hD
  have hG2 : GI ct ad ag o q2 w1 := GI_kq hG1 hx2
  refine lv_istore (lv' := [(6, .int r2), (5, .int r), (0, .ref b), (1, .ref ag), (2, .ref am), (3, .ref qo), (4, .int i)]) hx hb dL_law_1367 hl (by decide) rfl (fun ls hl => ?_)
  refine lv_goto (tgt := 1448) hx hb dL_law_1369 (by decide) ?_
  exact W.widen (by show cells + 5 + 0 ≤ cells + 5; omega) (by show slots + 30 + 0 ≤ slots + 30; omega) (K o q2 w1 w2 fo1 H locs ls hG2 hM2 hP hD hS (lv_sub hl [2, 3, 4, 5, 6] rfl))
theorem lc_32 (F : LF p l s m c b L xs D ct ad sw sad wa A) (h0 : 0 ≤ i.toInt) (h1 : i.toInt + 6 ≤ (L : Int)) (hL : L ≤ 3072) (hc : cells + 5 ≤ 601024 ∧ slots + 30 ≤ 7293034) (K : LK p l e s m below meth c b ag am qo D ct ad sad A Q i (cells + 5) (slots + 30)) (hG : GI ct ad ag o q wg) (hM : MI ct sad am o q (fun _ => True) wm) (hP : va_P D vwCl ((wg ++ [oc ct qo fo]) ++ wm) H) (hD : va_D A ((wg ++ [oc ct qo fo]) ++ wm)) (hS : va_S A s.heap H locs) (hl : lv_has ls 7 (lvL b ag am qo i)) : W p l e room_1 s m #[Value.ref b] below meth c H locs cells slots Q (F0 m 1372 ls []) := by
  obtain ⟨hx, hb, hml, hown, hts, hK, hX, hXm, hst, hA, hXs, hbl, hbA⟩ := F
  have hl : lv_has ls 7 [(0, .ref b), (1, .ref ag), (2, .ref am), (3, .ref qo), (4, .int i)] := hl
  refine lv_aload_n hx hb dL_law_1372 rfl (lv_at hl 1 rfl) ?_
  refine lv_aload_n hx hb dL_law_1373 rfl (lv_at hl 0 rfl) ?_
  refine lv_iload hx hb dL_law_1374 (lv_at hl 4 rfl) ?_
  refine lv_iconst (v := 1) hx hb dL_law_1376 (by decide) ?_
  refine lv_iadd hx hb dL_law_1377 ?_
  refine va_sld hx hb hXs hbl hbA hS (vin_law h0 h1 hL (by decide)) dL_law_1378 ?_
  refine lv_aload_n hx hb dL_law_1379 rfl (lv_at hl 0 rfl) ?_
  refine lv_iload hx hb dL_law_1380 (lv_at hl 4 rfl) ?_
  refine lv_iconst (v := 2) hx hb dL_law_1382 (by decide) ?_
  refine lv_iadd hx hb dL_law_1383 ?_
  refine va_sld hx hb hXs hbl hbA hS (vin_law h0 h1 hL (by decide)) dL_law_1384 ?_
  refine lv_aload_n hx hb dL_law_1385 rfl (lv_at hl 0 rfl) ?_
  refine lv_iload hx hb dL_law_1386 (lv_at hl 4 rfl) ?_
  refine lv_iconst (v := 3) hx hb dL_law_1388 (by decide) ?_
  refine lv_iadd hx hb dL_law_1389 ?_
  refine va_sld hx hb hXs hbl hbA hS (vin_law h0 h1 hL (by decide)) dL_law_1390 ?_
  refine lv_aload_n hx hb dL_law_1391 rfl (lv_at hl 3 rfl) ?_
  refine kHS (rest := []) (X := wg ++ [oc ct qo fo]) (pl := wm) ⟨hx, hb, hml, hown, hts⟩ (w_ages l hst D ct ad sw wa ag qo H.size o q wg fo (xs (i + 1).toNatClampNeg) (xs (i + 2).toNatClampNeg) (xs (i + 3).toNatClampNeg) hG) (vx_cwSW 5 hts kw_W_ages rfl rfl rfl (by decide +kernel) ⟨(Nat.le_of_ble_eq_true rfl), (Nat.le_of_ble_eq_true rfl)⟩) (EL_ok ad sw wa) hX hK hP hD hS hA rfl hl.1 rfl (Nat.le_of_ble_eq_true rfl) dL_law_1392 ⟨by show cells + 5 ≤ 601024; omega, by show slots + 30 ≤ 7293034; omega⟩ (fun r u H locs hr hP hD hS => ?_)
  obtain ⟨w1, fo1, o1⟩ := u
  have hG1 : GI ct ad ag o q w1 := by
    have h := hr.1
    have e : o1 = o := hr.2
    rw [← e]
    exact h
  have hP : va_P D vwCl ((w1 ++ [oc ct qo fo1]) ++ wm) H := hP
  have hD : va_D A ((w1 ++ [oc ct qo fo1]) ++ wm) := hD
  refine lv_istore (lv' := [(5, .int r), (0, .ref b), (1, .ref ag), (2, .ref am), (3, .ref qo), (4, .int i)]) hx hb dL_law_1395 hl (by decide) rfl (fun ls hl => ?_)
  refine lv_aload_n hx hb dL_law_1397 rfl (lv_at hl 3 rfl) ?_
  refine lv_aload_n hx hb dL_law_1398 rfl (lv_at hl 1 rfl) ?_
  refine lv_iload hx hb dL_law_1399 (lv_at hl 5 rfl) ?_
  refine lv_iconst (v := 1) hx hb dL_law_1401 (by decide) ?_
  refine lv_iadd hx hb dL_law_1402 ?_
  refine va_sld hx hb hXs hbl hbA hS (vin_law h0 h1 hL (by decide)) dL_law_1403 ?_
  refine lv_aload_n hx hb dL_law_1404 rfl (lv_at hl 1 rfl) ?_
  refine lv_iload hx hb dL_law_1405 (lv_at hl 5 rfl) ?_
  refine lv_iconst (v := 2) hx hb dL_law_1407 (by decide) ?_
  refine lv_iadd hx hb dL_law_1408 ?_
  refine va_sld hx hb hXs hbl hbA hS (vin_law h0 h1 hL (by decide)) dL_law_1409 ?_
  refine lv_aload_n hx hb dL_law_1410 rfl (lv_at hl 1 rfl) ?_
  refine lv_iload hx hb dL_law_1411 (lv_at hl 5 rfl) ?_
  refine lv_iconst (v := 3) hx hb dL_law_1413 (by decide) ?_
  refine lv_iadd hx hb dL_law_1414 ?_
  refine va_sld hx hb hXs hbl hbA hS (vin_law h0 h1 hL (by decide)) dL_law_1415 ?_
  refine sM_ages (rest := []) (wx := w1 ++ [oc ct qo fo1]) ⟨hx, hb, hml, hown, hts⟩ (cwV 3 hts kw_M_ages rfl rfl rfl (by decide +kernel) ⟨(Nat.le_of_ble_eq_true rfl), (Nat.le_of_ble_eq_true rfl)⟩) hM hK (pc_ hP) (dc_ hD) hS hA hl.1 (Nat.le_of_ble_eq_true rfl) dL_law_1416 ⟨by show cells + 5 + 0 ≤ 601024; omega, by show slots + 30 + 0 ≤ 7293034; omega⟩ (xs (i + 1).toNatClampNeg) (xs (i + 2).toNatClampNeg) (xs (i + 3).toNatClampNeg) (fun r2 q2 w2 H locs hx2 hM2 hP hD hS => ?_)
  have hP := pc_ hP
  have hD := dc_ hD
  have hG2 : GI ct ad ag o q2 w1 := GI_kq hG1 hx2
  refine lv_istore (lv' := [(6, .int r2), (5, .int r), (0, .ref b), (1, .ref ag), (2, .ref am), (3, .ref qo), (4, .int i)]) hx hb dL_law_1419 hl (by decide) rfl (fun ls hl => ?_)
  refine lv_goto (tgt := 1448) hx hb dL_law_1421 (by decide) ?_
  exact W.widen (by show cells + 5 + 0 ≤ cells + 5; omega) (by show slots + 30 + 0 ≤ slots + 30; omega) (K o q2 w1 w2 fo1 H locs ls hG2 hM2 hP hD hS (lv_sub hl [2, 3, 4, 5, 6] rfl))
theorem lc_33 (F : LF p l s m c b L xs D ct ad sw sad wa A) (h0 : 0 ≤ i.toInt) (h1 : i.toInt + 6 ≤ (L : Int)) (hL : L ≤ 3072) (hc : cells + 5 ≤ 601024 ∧ slots + 30 ≤ 7293034) (K : LK p l e s m below meth c b ag am qo D ct ad sad A Q i (cells + 5) (slots + 30)) (hG : GI ct ad ag o q wg) (hM : MI ct sad am o q (fun _ => True) wm) (hP : va_P D vwCl ((wg ++ [oc ct qo fo]) ++ wm) H) (hD : va_D A ((wg ++ [oc ct qo fo]) ++ wm)) (hS : va_S A s.heap H locs) (hl : lv_has ls 7 (lvL b ag am qo i)) : W p l e room_1 s m #[Value.ref b] below meth c H locs cells slots Q (F0 m 1424 ls []) := by
  obtain ⟨hx, hb, hml, hown, hts, hK, hX, hXm, hst, hA, hXs, hbl, hbA⟩ := F
  have hl : lv_has ls 7 [(0, .ref b), (1, .ref ag), (2, .ref am), (3, .ref qo), (4, .int i)] := hl
  refine lv_aload_n hx hb dL_law_1424 rfl (lv_at hl 1 rfl) ?_
  refine sG_image (rest := []) (wx := [oc ct qo fo] ++ wm) ⟨hx, hb, hml, hown, hts⟩ (cwV 0 hts kw_G_image rfl rfl rfl (by decide +kernel) ⟨(Nat.le_of_ble_eq_true rfl), (Nat.le_of_ble_eq_true rfl)⟩) hG hK (as1 hP) (ad1 hD) hS hA hl.1 (Nat.le_of_ble_eq_true rfl) dL_law_1425 ⟨by show cells + 0 ≤ 601024; omega, by show slots + 0 ≤ 7293034; omega⟩ (fun o1 w1 H locs ho1 hF hP hD hS => ?_)
  have hP := as2 hP
  have hD := ad2 hD
  refine lv_aload_n hx hb dL_law_1428 rfl (lv_at hl 2 rfl) ?_
  refine sM_image (rest := []) (wx := w1 ++ [oc ct qo fo]) ⟨hx, hb, hml, hown, hts⟩ (cwV 0 hts kw_M_image rfl rfl rfl (by decide +kernel) ⟨(Nat.le_of_ble_eq_true rfl), (Nat.le_of_ble_eq_true rfl)⟩) hM hK (pc_ hP) (dc_ hD) hS hA hl.1 (Nat.le_of_ble_eq_true rfl) dL_law_1429 ⟨by show cells + 0 + 0 ≤ 601024; omega, by show slots + 0 + 0 ≤ 7293034; omega⟩ (fun o2 c2 q2 w2 H locs ho2 hx2 hM2 hP hD hS => ?_)
  have hP := pc_ hP
  have hD := dc_ hD
  have hM2 : MI ct sad am o1 q2 (fun _ => True) w2 := by
    rw [ho1.trans ho2.symm]; exact hM2
  have hG2 : GI ct ad ag o1 q2 w1 := (hF c2 q2 hx2).2
  refine lv_goto (tgt := 1448) hx hb dL_law_1432 (by decide) ?_
  exact W.widen (by show cells + 0 + 0 ≤ cells + 5; omega) (by show slots + 0 + 0 ≤ slots + 30; omega) (K o1 q2 w1 w2 fo H locs ls hG2 hM2 hP hD hS (lv_sub hl [0, 1, 2, 3, 4] rfl))
theorem lc_34 (F : LF p l s m c b L xs D ct ad sw sad wa A) (h0 : 0 ≤ i.toInt) (h1 : i.toInt + 6 ≤ (L : Int)) (hL : L ≤ 3072) (hc : cells + 5 ≤ 601024 ∧ slots + 30 ≤ 7293034) (K : LK p l e s m below meth c b ag am qo D ct ad sad A Q i (cells + 5) (slots + 30)) (hG : GI ct ad ag o q wg) (hM : MI ct sad am o q (fun _ => True) wm) (hP : va_P D vwCl ((wg ++ [oc ct qo fo]) ++ wm) H) (hD : va_D A ((wg ++ [oc ct qo fo]) ++ wm)) (hS : va_S A s.heap H locs) (hl : lv_has ls 7 (lvL b ag am qo i)) : W p l e room_1 s m #[Value.ref b] below meth c H locs cells slots Q (F0 m 1435 ls []) := by
  obtain ⟨hx, hb, hml, hown, hts, hK, hX, hXm, hst, hA, hXs, hbl, hbA⟩ := F
  have hl : lv_has ls 7 [(0, .ref b), (1, .ref ag), (2, .ref am), (3, .ref qo), (4, .int i)] := hl
  refine lv_aload_n hx hb dL_law_1435 rfl (lv_at hl 1 rfl) ?_
  refine sG_restore (rest := []) (wx := [oc ct qo fo] ++ wm) ⟨hx, hb, hml, hown, hts⟩ (cwV 0 hts kw_G_restore rfl rfl rfl (by decide +kernel) ⟨(Nat.le_of_ble_eq_true rfl), (Nat.le_of_ble_eq_true rfl)⟩) hG hK (as1 hP) (ad1 hD) hS hA hl.1 (Nat.le_of_ble_eq_true rfl) dL_law_1436 ⟨by show cells + 0 ≤ 601024; omega, by show slots + 0 ≤ 7293034; omega⟩ (fun r w1 H locs hfr hF hP hD hS => ?_)
  have hP := as2 hP
  have hD := ad2 hD
  refine lv_pop hx hb dL_law_1439 rfl ?_
  refine lv_aload_n hx hb dL_law_1440 rfl (lv_at hl 2 rfl) ?_
  refine sM_restore (rest := []) (wx := w1 ++ [oc ct qo fo]) ⟨hx, hb, hml, hown, hts⟩ (cwV 0 hts kw_M_restore rfl rfl rfl (by decide +kernel) ⟨(Nat.le_of_ble_eq_true rfl), (Nat.le_of_ble_eq_true rfl)⟩) hM hK (pc_ hP) (dc_ hD) hS hA hl.1 (Nat.le_of_ble_eq_true rfl) dL_law_1441 ⟨by show cells + 0 + 0 ≤ 601024; omega, by show slots + 0 + 0 ≤ 7293034; omega⟩ (fun r2 c2 q2 w2 H locs hfr2 hx2 hM2 hP hD hS => ?_)
  have hP := pc_ hP
  have hD := dc_ hD
  have hG2 : GI ct ad ag o q2 w1 := (hF c2 r2 q2 hx2).2.2
  refine lv_pop hx hb dL_law_1444 rfl ?_
  refine lv_goto (tgt := 1448) hx hb dL_law_1445 (by decide) ?_
  exact W.widen (by show cells + 0 + 0 ≤ cells + 5; omega) (by show slots + 0 + 0 ≤ slots + 30; omega) (K o q2 w1 w2 fo H locs ls hG2 hM2 hP hD hS (lv_sub hl [0, 1, 2, 3, 4] rfl))
end LC
