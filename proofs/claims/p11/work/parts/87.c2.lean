section LC
variable {p : Program} {l : Launch} {e : Env} {s : State} {m : MethodId} {below : List Frame} {meth : Method} {c : Code} {b L : Nat} {xs : Nat → Int32} {D : va_G} {ct : Nat → ClassId} {ad sw sad : Nat → Nat} {wa : Nat} {A : Nat → Prop} {Q : State → Prop} {ag am qo : Nat} {i : Int32} {cells slots : Nat} {o : OB} {q : OS} {wg wm : va_W} {fo : Nat → Int64} {H : Heap} {locs : List Loc} {ls : Array Slot}
theorem lc_24 (F : LF p l s m c b L xs D ct ad sw sad wa A) (h0 : 0 ≤ i.toInt) (h1 : i.toInt + 6 ≤ (L : Int)) (hL : L ≤ 3072) (hc : cells + 5 ≤ 601024 ∧ slots + 30 ≤ 7293034) (K : LK p l e s m below meth c b ag am qo D ct ad sad A Q i (cells + 5) (slots + 30)) (hG : GI ct ad ag o q wg) (hM : MI ct sad am o q (fun _ => True) wm) (hP : va_P D vwCl ((wg ++ [oc ct qo fo]) ++ wm) H) (hD : va_D A ((wg ++ [oc ct qo fo]) ++ wm)) (hS : va_S A s.heap H locs) (hl : lv_has ls 7 (lvL b ag am qo i)) : W p l e room_1 s m #[Value.ref b] below meth c H locs cells slots Q (F0 m 1143 ls []) := by
  obtain ⟨hx, hb, hml, hown, hts, hK, hX, hXm, hst, hA, hXs, hbl, hbA⟩ := F
  have hl : lv_has ls 7 [(0, .ref b), (1, .ref ag), (2, .ref am), (3, .ref qo), (4, .int i)] := hl
  refine lv_aload_n hx hb dL_law_1143 rfl (lv_at hl 1 rfl) ?_
  refine lv_aload_n hx hb dL_law_1144 rfl (lv_at hl 0 rfl) ?_
  refine lv_iload hx hb dL_law_1145 (lv_at hl 4 rfl) ?_
  refine lv_iconst (v := 1) hx hb dL_law_1147 (by decide) ?_
  refine lv_iadd hx hb dL_law_1148 ?_
  refine va_sld hx hb hXs hbl hbA hS (vin_law h0 h1 hL (by decide)) dL_law_1149 ?_
  refine lv_aload_n hx hb dL_law_1150 rfl (lv_at hl 3 rfl) ?_
  refine kHS (rest := []) (X := wg ++ [oc ct qo fo]) (pl := wm) ⟨hx, hb, hml, hown, hts⟩ (w_empty l hst D ct ad sw wa ag qo H.size o q wg fo (xs (i + 1).toNatClampNeg) hG) (vx_cwSW 3 hts kw_W_empty rfl rfl rfl (by decide +kernel) ⟨(Nat.le_of_ble_eq_true rfl), (Nat.le_of_ble_eq_true rfl)⟩) (EL_ok ad sw wa) hX hK hP hD hS hA rfl hl.1 rfl (Nat.le_of_ble_eq_true rfl) dL_law_1151 ⟨by show cells + 5 ≤ 601024; omega, by show slots + 30 ≤ 7293034; omega⟩ (fun r u H locs hr hP hD hS => ?_)
  obtain ⟨w1, fo1, o1⟩ := u
  have hG1 : GI ct ad ag o q w1 := by
    have h := hr.1
    have e : o1 = o := hr.2
    rw [← e]
    exact h
  have hP : va_P D vwCl ((w1 ++ [oc ct qo fo1]) ++ wm) H := hP
  have hD : va_D A ((w1 ++ [oc ct qo fo1]) ++ wm) := hD
  refine lv_istore (lv' := [(5, .int r), (0, .ref b), (1, .ref ag), (2, .ref am), (3, .ref qo), (4, .int i)]) hx hb dL_law_1154 hl (by decide) rfl (fun ls hl => ?_)
  refine lv_aload_n hx hb dL_law_1156 rfl (lv_at hl 3 rfl) ?_
  refine lv_aload_n hx hb dL_law_1157 rfl (lv_at hl 1 rfl) ?_
  refine lv_iload hx hb dL_law_1158 (lv_at hl 5 rfl) ?_
  refine lv_iconst (v := 1) hx hb dL_law_1160 (by decide) ?_
  refine lv_iadd hx hb dL_law_1161 ?_
  refine va_sld hx hb hXs hbl hbA hS (vin_law h0 h1 hL (by decide)) dL_law_1162 ?_
  refine sM_empty (rest := []) (wx := w1 ++ [oc ct qo fo1]) ⟨hx, hb, hml, hown, hts⟩ (cwV 1 hts kw_M_empty rfl rfl rfl (by decide +kernel) ⟨(Nat.le_of_ble_eq_true rfl), (Nat.le_of_ble_eq_true rfl)⟩) hM hK (pc_ hP) (dc_ hD) hS hA hl.1 (Nat.le_of_ble_eq_true rfl) dL_law_1163 ⟨by show cells + 5 + 0 ≤ 601024; omega, by show slots + 30 + 0 ≤ 7293034; omega⟩ (xs (i + 1).toNatClampNeg) (fun r2 q2 w2 H locs hx2 hM2 hP hD hS => ?_)
  have hP := pc_ hP
  have hD := dc_ hD
  have hG2 : GI ct ad ag o q2 w1 := GI_kq hG1 hx2
  refine lv_istore (lv' := [(6, .int r2), (5, .int r), (0, .ref b), (1, .ref ag), (2, .ref am), (3, .ref qo), (4, .int i)]) hx hb dL_law_1166 hl (by decide) rfl (fun ls hl => ?_)
  refine lv_goto (tgt := 1483) hx hb dL_law_1168 (by decide) ?_
  exact W.widen (by show cells + 5 + 0 ≤ cells + 5; omega) (by show slots + 30 + 0 ≤ slots + 30; omega) (K o q2 w1 w2 fo1 H locs ls hG2 hM2 hP hD hS (lv_sub hl [2, 3, 4, 5, 6] rfl))
theorem lc_25 (F : LF p l s m c b L xs D ct ad sw sad wa A) (h0 : 0 ≤ i.toInt) (h1 : i.toInt + 6 ≤ (L : Int)) (hL : L ≤ 3072) (hc : cells + 5 ≤ 601024 ∧ slots + 30 ≤ 7293034) (K : LK p l e s m below meth c b ag am qo D ct ad sad A Q i (cells + 5) (slots + 30)) (hG : GI ct ad ag o q wg) (hM : MI ct sad am o q (fun _ => True) wm) (hP : va_P D vwCl ((wg ++ [oc ct qo fo]) ++ wm) H) (hD : va_D A ((wg ++ [oc ct qo fo]) ++ wm)) (hS : va_S A s.heap H locs) (hl : lv_has ls 7 (lvL b ag am qo i)) : W p l e room_1 s m #[Value.ref b] below meth c H locs cells slots Q (F0 m 1171 ls []) := by
  obtain ⟨hx, hb, hml, hown, hts, hK, hX, hXm, hst, hA, hXs, hbl, hbA⟩ := F
  have hl : lv_has ls 7 [(0, .ref b), (1, .ref ag), (2, .ref am), (3, .ref qo), (4, .int i)] := hl
  refine lv_aload_n hx hb dL_law_1171 rfl (lv_at hl 1 rfl) ?_
  refine sG_homes (rest := []) (wx := [oc ct qo fo] ++ wm) ⟨hx, hb, hml, hown, hts⟩ (cwV 0 hts kw_G_homes rfl rfl rfl (by decide +kernel) ⟨(Nat.le_of_ble_eq_true rfl), (Nat.le_of_ble_eq_true rfl)⟩) hG hK (as1 hP) (ad1 hD) hS hA hl.1 (Nat.le_of_ble_eq_true rfl) dL_law_1172 ⟨by show cells + 0 ≤ 601024; omega, by show slots + 0 ≤ 7293034; omega⟩ (fun r w1 H locs hG1 hP hD hS => ?_)
  have hP := as2 hP
  have hD := ad2 hD
  refine lv_pop hx hb dL_law_1175 rfl ?_
  refine lv_aload_n hx hb dL_law_1176 rfl (lv_at hl 2 rfl) ?_
  refine sM_homes (rest := []) (wx := w1 ++ [oc ct qo fo]) ⟨hx, hb, hml, hown, hts⟩ (cwV 0 hts kw_M_homes rfl rfl rfl (by decide +kernel) ⟨(Nat.le_of_ble_eq_true rfl), (Nat.le_of_ble_eq_true rfl)⟩) hM hK (pc_ hP) (dc_ hD) hS hA hl.1 (Nat.le_of_ble_eq_true rfl) dL_law_1177 ⟨by show cells + 0 ≤ 601024; omega, by show slots + 0 ≤ 7293034; omega⟩ (fun r2 q2 w2 H locs hx2 hM2 hP hD hS => ?_)
  have hP := pc_ hP
  have hD := dc_ hD
  have hG2 : GI ct ad ag o q2 w1 := GI_kq hG1 hx2
  refine lv_pop hx hb dL_law_1180 rfl ?_
  refine lv_goto (tgt := 1483) hx hb dL_law_1181 (by decide) ?_
  exact W.widen (by show cells + 0 ≤ cells + 5; omega) (by show slots + 0 ≤ slots + 30; omega) (K o q2 w1 w2 fo H locs ls hG2 hM2 hP hD hS (lv_sub hl [0, 1, 2, 3, 4] rfl))
theorem lc_26 (F : LF p l s m c b L xs D ct ad sw sad wa A) (h0 : 0 ≤ i.toInt) (h1 : i.toInt + 6 ≤ (L : Int)) (hL : L ≤ 3072) (hc : cells + 5 ≤ 601024 ∧ slots + 30 ≤ 7293034) (K : LK p l e s m below meth c b ag am qo D ct ad sad A Q i (cells + 5) (slots + 30)) (hG : GI ct ad ag o q wg) (hM : MI ct sad am o q (fun _ => True) wm) (hP : va_P D vwCl ((wg ++ [oc ct qo fo]) ++ wm) H) (hD : va_D A ((wg ++ [oc ct qo fo]) ++ wm)) (hS : va_S A s.heap H locs) (hl : lv_has ls 7 (lvL b ag am qo i)) : W p l e room_1 s m #[Value.ref b] below meth c H locs cells slots Q (F0 m 1184 ls []) := by
  obtain ⟨hx, hb, hml, hown, hts, hK, hX, hXm, hst, hA, hXs, hbl, hbA⟩ := F
  have hl : lv_has ls 7 [(0, .ref b), (1, .ref ag), (2, .ref am), (3, .ref qo), (4, .int i)] := hl
  refine lv_aload_n hx hb dL_law_1184 rfl (lv_at hl 1 rfl) ?_
  refine lv_aload_n hx hb dL_law_1185 rfl (lv_at hl 0 rfl) ?_
  refine lv_iload hx hb dL_law_1186 (lv_at hl 4 rfl) ?_
  refine lv_iconst (v := 1) hx hb dL_law_1188 (by decide) ?_
  refine lv_iadd hx hb dL_law_1189 ?_
  refine va_sld hx hb hXs hbl hbA hS (vin_law h0 h1 hL (by decide)) dL_law_1190 ?_
  refine lv_aload_n hx hb dL_law_1191 rfl (lv_at hl 0 rfl) ?_
  refine lv_iload hx hb dL_law_1192 (lv_at hl 4 rfl) ?_
  refine lv_iconst (v := 2) hx hb dL_law_1194 (by decide) ?_
  refine lv_iadd hx hb dL_law_1195 ?_
  refine va_sld hx hb hXs hbl hbA hS (vin_law h0 h1 hL (by decide)) dL_law_1196 ?_
  refine lv_aload_n hx hb dL_law_1197 rfl (lv_at hl 0 rfl) ?_
  refine lv_iload hx hb dL_law_1198 (lv_at hl 4 rfl) ?_
  refine lv_iconst (v := 3) hx hb dL_law_1200 (by decide) ?_
  refine lv_iadd hx hb dL_law_1201 ?_
  refine va_sld hx hb hXs hbl hbA hS (vin_law h0 h1 hL (by decide)) dL_law_1202 ?_
  refine lv_aload_n hx hb dL_law_1203 rfl (lv_at hl 3 rfl) ?_
  refine kHS (rest := []) (X := wg ++ [oc ct qo fo]) (pl := wm) ⟨hx, hb, hml, hown, hts⟩ (w_see l hst D ct ad sw wa ag qo H.size o q wg fo (xs (i + 1).toNatClampNeg) (xs (i + 2).toNatClampNeg) (xs (i + 3).toNatClampNeg) hG) (vx_cwSW 5 hts kw_W_see rfl rfl rfl (by decide +kernel) ⟨(Nat.le_of_ble_eq_true rfl), (Nat.le_of_ble_eq_true rfl)⟩) (EL_ok ad sw wa) hX hK hP hD hS hA rfl hl.1 rfl (Nat.le_of_ble_eq_true rfl) dL_law_1204 ⟨by show cells + 5 ≤ 601024; omega, by show slots + 30 ≤ 7293034; omega⟩ (fun r u H locs hr hP hD hS => ?_)
  obtain ⟨w1, fo1, o1⟩ := u
  have hF := hr.1
  have e9 : o1 = o := hr.2
  dsimp only at hF
  rw [e9] at hF
  have hP : va_P D vwCl ((w1 ++ [oc ct qo fo1]) ++ wm) H := hP
  have hD : va_D A ((w1 ++ [oc ct qo fo1]) ++ wm) := hD
  refine lv_istore (lv' := [(5, .int r), (0, .ref b), (1, .ref ag), (2, .ref am), (3, .ref qo), (4, .int i)]) hx hb dL_law_1207 hl (by decide) rfl (fun ls hl => ?_)
  refine lv_aload_n hx hb dL_law_1209 rfl (lv_at hl 3 rfl) ?_
  refine lv_aload_n hx hb dL_law_1210 rfl (lv_at hl 1 rfl) ?_
  refine lv_iload hx hb dL_law_1211 (lv_at hl 5 rfl) ?_
  refine lv_iconst (v := 1) hx hb dL_law_1213 (by decide) ?_
  refine lv_iadd hx hb dL_law_1214 ?_
  refine va_sld hx hb hXs hbl hbA hS (vin_law h0 h1 hL (by decide)) dL_law_1215 ?_
  refine lv_aload_n hx hb dL_law_1216 rfl (lv_at hl 1 rfl) ?_
  refine lv_iload hx hb dL_law_1217 (lv_at hl 5 rfl) ?_
  refine lv_iconst (v := 2) hx hb dL_law_1219 (by decide) ?_
  refine lv_iadd hx hb dL_law_1220 ?_
  refine va_sld hx hb hXs hbl hbA hS (vin_law h0 h1 hL (by decide)) dL_law_1221 ?_
  refine lv_aload_n hx hb dL_law_1222 rfl (lv_at hl 1 rfl) ?_
  refine lv_iload hx hb dL_law_1223 (lv_at hl 5 rfl) ?_
  refine lv_iconst (v := 3) hx hb dL_law_1225 (by decide) ?_
  refine lv_iadd hx hb dL_law_1226 ?_
  refine va_sld hx hb hXs hbl hbA hS (vin_law h0 h1 hL (by decide)) dL_law_1227 ?_
  refine sM_see (rest := []) (wx := w1 ++ [oc ct qo fo1]) ⟨hx, hb, hml, hown, hts⟩ (cwV 3 hts kw_M_see rfl rfl rfl (by decide +kernel) ⟨(Nat.le_of_ble_eq_true rfl), (Nat.le_of_ble_eq_true rfl)⟩) hM hK (pc_ hP) (dc_ hD) hS hA hl.1 (Nat.le_of_ble_eq_true rfl) dL_law_1228 ⟨by show cells + 5 + 0 ≤ 601024; omega, by show slots + 30 + 0 ≤ 7293034; omega⟩ (xs (i + 1).toNatClampNeg) (xs (i + 2).toNatClampNeg) (xs (i + 3).toNatClampNeg) (fun r2 c2 q2 w2 H locs hx2 hM2 hP hD hS => ?_)
  have hP := pc_ hP
  have hD := dc_ hD
  have hG2 : GI ct ad ag o q2 w1 := hF c2 r2 q2 hx2
  refine lv_istore (lv' := [(6, .int r2), (5, .int r), (0, .ref b), (1, .ref ag), (2, .ref am), (3, .ref qo), (4, .int i)]) hx hb dL_law_1231 hl (by decide) rfl (fun ls hl => ?_)
  refine lv_goto (tgt := 1483) hx hb dL_law_1233 (by decide) ?_
  exact W.widen (by show cells + 5 + 0 ≤ cells + 5; omega) (by show slots + 30 + 0 ≤ slots + 30; omega) (K o q2 w1 w2 fo1 H locs ls hG2 hM2 hP hD hS (lv_sub hl [2, 3, 4, 5, 6] rfl))
theorem lc_27 (F : LF p l s m c b L xs D ct ad sw sad wa A) (h0 : 0 ≤ i.toInt) (h1 : i.toInt + 6 ≤ (L : Int)) (hL : L ≤ 3072) (hc : cells + 5 ≤ 601024 ∧ slots + 30 ≤ 7293034) (K : LK p l e s m below meth c b ag am qo D ct ad sad A Q i (cells + 5) (slots + 30)) (hG : GI ct ad ag o q wg) (hM : MI ct sad am o q (fun _ => True) wm) (hP : va_P D vwCl ((wg ++ [oc ct qo fo]) ++ wm) H) (hD : va_D A ((wg ++ [oc ct qo fo]) ++ wm)) (hS : va_S A s.heap H locs) (hl : lv_has ls 7 (lvL b ag am qo i)) : W p l e room_1 s m #[Value.ref b] below meth c H locs cells slots Q (F0 m 1236 ls []) := by
  obtain ⟨hx, hb, hml, hown, hts, hK, hX, hXm, hst, hA, hXs, hbl, hbA⟩ := F
  have hl : lv_has ls 7 [(0, .ref b), (1, .ref ag), (2, .ref am), (3, .ref qo), (4, .int i)] := hl
  refine lv_aload_n hx hb dL_law_1236 rfl (lv_at hl 1 rfl) ?_
  refine lv_aload_n hx hb dL_law_1237 rfl (lv_at hl 0 rfl) ?_
  refine lv_iload hx hb dL_law_1238 (lv_at hl 4 rfl) ?_
  refine lv_iconst (v := 1) hx hb dL_law_1240 (by decide) ?_
  refine lv_iadd hx hb dL_law_1241 ?_
  refine va_sld hx hb hXs hbl hbA hS (vin_law h0 h1 hL (by decide)) dL_law_1242 ?_
  refine lv_aload_n hx hb dL_law_1243 rfl (lv_at hl 3 rfl) ?_
  refine kHS (rest := []) (X := wg ++ [oc ct qo fo]) (pl := wm) ⟨hx, hb, hml, hown, hts⟩ (w_old l hst D ct ad sw wa ag qo H.size o q wg fo (xs (i + 1).toNatClampNeg) hG) (vx_cwSW 3 hts kw_W_old rfl rfl rfl (by decide +kernel) ⟨(Nat.le_of_ble_eq_true rfl), (Nat.le_of_ble_eq_true rfl)⟩) (EL_ok ad sw wa) hX hK hP hD hS hA rfl hl.1 rfl (Nat.le_of_ble_eq_true rfl) dL_law_1244 ⟨by show cells + 5 ≤ 601024; omega, by show slots + 30 ≤ 7293034; omega⟩ (fun r u H locs hr hP hD hS => ?_)
  obtain ⟨w1, fo1, o1⟩ := u
  have hG1 : GI ct ad ag o q w1 := by
    have h := hr.1
    have e : o1 = o := hr.2
    rw [← e]
    exact h
  have hP : va_P D vwCl ((w1 ++ [oc ct qo fo1]) ++ wm) H := hP
  have hD : va_D A ((w1 ++ [oc ct qo fo1]) ++ wm) := hD
  refine lv_istore (lv' := [(5, .int r), (0, .ref b), (1, .ref ag), (2, .ref am), (3, .ref qo), (4, .int i)]) hx hb dL_law_1247 hl (by decide) rfl (fun ls hl => ?_)
  refine lv_aload_n hx hb dL_law_1249 rfl (lv_at hl 3 rfl) ?_
  refine lv_aload_n hx hb dL_law_1250 rfl (lv_at hl 1 rfl) ?_
  refine lv_iload hx hb dL_law_1251 (lv_at hl 5 rfl) ?_
  refine lv_iconst (v := 1) hx hb dL_law_1253 (by decide) ?_
  refine lv_iadd hx hb dL_law_1254 ?_
  refine va_sld hx hb hXs hbl hbA hS (vin_law h0 h1 hL (by decide)) dL_law_1255 ?_
  refine sM_old (rest := []) (wx := w1 ++ [oc ct qo fo1]) ⟨hx, hb, hml, hown, hts⟩ (cwV 1 hts kw_M_old rfl rfl rfl (by decide +kernel) ⟨(Nat.le_of_ble_eq_true rfl), (Nat.le_of_ble_eq_true rfl)⟩) hM hK (pc_ hP) (dc_ hD) hS hA hl.1 (Nat.le_of_ble_eq_true rfl) dL_law_1256 ⟨by show cells + 5 + 0 ≤ 601024; omega, by show slots + 30 + 0 ≤ 7293034; omega⟩ (xs (i + 1).toNatClampNeg) (fun r2 q2 w2 H locs hx2 hM2 hP hD hS => ?_)
  have hP := pc_ hP
  have hD := dc_ hD
  have hG2 : GI ct ad ag o q2 w1 := GI_kq hG1 hx2
  refine lv_istore (lv' := [(6, .int r2), (5, .int r), (0, .ref b), (1, .ref ag), (2, .ref am), (3, .ref qo), (4, .int i)]) hx hb dL_law_1259 hl (by decide) rfl (fun ls hl => ?_)
  refine lv_goto (tgt := 1483) hx hb dL_law_1261 (by decide) ?_
  exact W.widen (by show cells + 5 + 0 ≤ cells + 5; omega) (by show slots + 30 + 0 ≤ slots + 30; omega) (K o q2 w1 w2 fo1 H locs ls hG2 hM2 hP hD hS (lv_sub hl [2, 3, 4, 5, 6] rfl))
theorem lc_28 (F : LF p l s m c b L xs D ct ad sw sad wa A) (h0 : 0 ≤ i.toInt) (h1 : i.toInt + 6 ≤ (L : Int)) (hL : L ≤ 3072) (hc : cells + 5 ≤ 601024 ∧ slots + 30 ≤ 7293034) (K : LK p l e s m below meth c b ag am qo D ct ad sad A Q i (cells + 5) (slots + 30)) (hG : GI ct ad ag o q wg) (hM : MI ct sad am o q (fun _ => True) wm) (hP : va_P D vwCl ((wg ++ [oc ct qo fo]) ++ wm) H) (hD : va_D A ((wg ++ [oc ct qo fo]) ++ wm)) (hS : va_S A s.heap H locs) (hl : lv_has ls 7 (lvL b ag am qo i)) : W p l e room_1 s m #[Value.ref b] below meth c H locs cells slots Q (F0 m 1264 ls []) := by
  obtain ⟨hx, hb, hml, hown, hts, hK, hX, hXm, hst, hA, hXs, hbl, hbA⟩ := F
  have hl : lv_has ls 7 [(0, .ref b), (1, .ref ag), (2, .ref am), (3, .ref qo), (4, .int i)] := hl
  refine lv_aload_n hx hb dL_law_1264 rfl (lv_at hl 1 rfl) ?_
  refine lv_aload_n hx hb dL_law_1265 rfl (lv_at hl 0 rfl) ?_
  refine lv_iload hx hb dL_law_1266 (lv_at hl 4 rfl) ?_
  refine lv_iconst (v := 1) hx hb dL_law_1268 (by decide) ?_
  refine lv_iadd hx hb dL_law_1269 ?_
  refine va_sld hx hb hXs hbl hbA hS (vin_law h0 h1 hL (by decide)) dL_law_1270 ?_
  refine lv_aload_n hx hb dL_law_1271 rfl (lv_at hl 3 rfl) ?_
  refine kHS (rest := []) (X := wg ++ [oc ct qo fo]) (pl := wm) ⟨hx, hb, hml, hown, hts⟩ (w_look l hst D ct ad sw wa ag qo H.size o q wg fo (xs (i + 1).toNatClampNeg) hG) (vx_cwSW 3 hts kw_W_look rfl rfl rfl (by decide +kernel) ⟨(Nat.le_of_ble_eq_true rfl), (Nat.le_of_ble_eq_true rfl)⟩) (EL_ok ad sw wa) hX hK hP hD hS hA rfl hl.1 rfl (Nat.le_of_ble_eq_true rfl) dL_law_1272 ⟨by show cells + 5 ≤ 601024; omega, by show slots + 30 ≤ 7293034; omega⟩ (fun r u H locs hr hP hD hS => ?_)
  obtain ⟨w1, fo1, o1⟩ := u
  have hG1 : GI ct ad ag o q w1 := by
    have h := hr.1
    have e : o1 = o := hr.2
    rw [← e]
    exact h
  have hP : va_P D vwCl ((w1 ++ [oc ct qo fo1]) ++ wm) H := hP
  have hD : va_D A ((w1 ++ [oc ct qo fo1]) ++ wm) := hD
  refine lv_istore (lv' := [(5, .int r), (0, .ref b), (1, .ref ag), (2, .ref am), (3, .ref qo), (4, .int i)]) hx hb dL_law_1275 hl (by decide) rfl (fun ls hl => ?_)
  refine lv_aload_n hx hb dL_law_1277 rfl (lv_at hl 3 rfl) ?_
  refine lv_aload_n hx hb dL_law_1278 rfl (lv_at hl 1 rfl) ?_
  refine lv_iload hx hb dL_law_1279 (lv_at hl 5 rfl) ?_
  refine lv_iconst (v := 1) hx hb dL_law_1281 (by decide) ?_
  refine lv_iadd hx hb dL_law_1282 ?_
  refine va_sld hx hb hXs hbl hbA hS (vin_law h0 h1 hL (by decide)) dL_law_1283 ?_
  refine sM_look (rest := []) (wx := w1 ++ [oc ct qo fo1]) ⟨hx, hb, hml, hown, hts⟩ (cwV 1 hts kw_M_look rfl rfl rfl (by decide +kernel) ⟨(Nat.le_of_ble_eq_true rfl), (Nat.le_of_ble_eq_true rfl)⟩) hM hK (pc_ hP) (dc_ hD) hS hA hl.1 (Nat.le_of_ble_eq_true rfl) dL_law_1284 ⟨by show cells + 5 + 0 ≤ 601024; omega, by show slots + 30 + 0 ≤ 7293034; omega⟩ (xs (i + 1).toNatClampNeg) (fun r2 q2 w2 H locs hx2 hM2 hP hD hS => ?_)
  have hP := pc_ hP
  have hD := dc_ hD
  have hG2 : GI ct ad ag o q2 w1 := GI_kq hG1 hx2
  refine lv_istore (lv' := [(6, .int r2), (5, .int r), (0, .ref b), (1, .ref ag), (2, .ref am), (3, .ref qo), (4, .int i)]) hx hb dL_law_1287 hl (by decide) rfl (fun ls hl => ?_)
  refine lv_goto (tgt := 1483) hx hb dL_law_1289 (by decide) ?_
  exact W.widen (by show cells + 5 + 0 ≤ cells + 5; omega) (by show slots + 30 + 0 ≤ slots + 30; omega) (K o q2 w1 w2 fo1 H locs ls hG2 hM2 hP hD hS (lv_sub hl [2, 3, 4, 5, 6] rfl))
theorem lc_29 (F : LF p l s m c b L xs D ct ad sw sad wa A) (h0 : 0 ≤ i.toInt) (h1 : i.toInt + 6 ≤ (L : Int)) (hL : L ≤ 3072) (hc : cells + 5 ≤ 601024 ∧ slots + 30 ≤ 7293034) (K : LK p l e s m below meth c b ag am qo D ct ad sad A Q i (cells + 5) (slots + 30)) (hG : GI ct ad ag o q wg) (hM : MI ct sad am o q (fun _ => True) wm) (hP : va_P D vwCl ((wg ++ [oc ct qo fo]) ++ wm) H) (hD : va_D A ((wg ++ [oc ct qo fo]) ++ wm)) (hS : va_S A s.heap H locs) (hl : lv_has ls 7 (lvL b ag am qo i)) : W p l e room_1 s m #[Value.ref b] below meth c H locs cells slots Q (F0 m 1292 ls []) := by
  obtain ⟨hx, hb, hml, hown, hts, hK, hX, hXm, hst, hA, hXs, hbl, hbA⟩ := F
  have hl : lv_has ls 7 [(0, .ref b), (1, .ref ag), (2, .ref am), (3, .ref qo), (4, .int i)] := hl
  refine lv_aload_n hx hb dL_law_1292 rfl (lv_at hl 1 rfl) ?_
  refine sG_forget (rest := []) (wx := [oc ct qo fo] ++ wm) ⟨hx, hb, hml, hown, hts⟩ (cwV 0 hts kw_G_forget rfl rfl rfl (by decide +kernel) ⟨(Nat.le_of_ble_eq_true rfl), (Nat.le_of_ble_eq_true rfl)⟩) hG hK (as1 hP) (ad1 hD) hS hA hl.1 (Nat.le_of_ble_eq_true rfl) dL_law_1293 ⟨by show cells + 0 ≤ 601024; omega, by show slots + 0 ≤ 7293034; omega⟩ (fun w1 H locs hF hP hD hS => ?_)
  have hP := as2 hP
  have hD := ad2 hD
  refine lv_aload_n hx hb dL_law_1296 rfl (lv_at hl 2 rfl) ?_
  refine sM_forget (rest := []) (wx := w1 ++ [oc ct qo fo]) ⟨hx, hb, hml, hown, hts⟩ (cwV 0 hts kw_M_forget rfl rfl rfl (by decide +kernel) ⟨(Nat.le_of_ble_eq_true rfl), (Nat.le_of_ble_eq_true rfl)⟩) hM hK (pc_ hP) (dc_ hD) hS hA hl.1 (Nat.le_of_ble_eq_true rfl) dL_law_1297 ⟨by show cells + 0 + 0 ≤ 601024; omega, by show slots + 0 + 0 ≤ 7293034; omega⟩ (fun c2 q2 w2 H locs hx2 hM2 hP hD hS => ?_)
  have hP := pc_ hP
  have hD := dc_ hD
  have hG2 : GI ct ad ag o q2 w1 := (hF c2 q2 hx2).2
  refine lv_goto (tgt := 1483) hx hb dL_law_1300 (by decide) ?_
  exact W.widen (by show cells + 0 + 0 ≤ cells + 5; omega) (by show slots + 0 + 0 ≤ slots + 30; omega) (K o q2 w1 w2 fo H locs ls hG2 hM2 hP hD hS (lv_sub hl [0, 1, 2, 3, 4] rfl))
theorem lc_30 (F : LF p l s m c b L xs D ct ad sw sad wa A) (h0 : 0 ≤ i.toInt) (h1 : i.toInt + 6 ≤ (L : Int)) (hL : L ≤ 3072) (hc : cells + 5 ≤ 601024 ∧ slots + 30 ≤ 7293034) (K : LK p l e s m below meth c b ag am qo D ct ad sad A Q i (cells + 5) (slots + 30)) (hG : GI ct ad ag o q wg) (hM : MI ct sad am o q (fun _ => True) wm) (hP : va_P D vwCl ((wg ++ [oc ct qo fo]) ++ wm) H) (hD : va_D A ((wg ++ [oc ct qo fo]) ++ wm)) (hS : va_S A s.heap H locs) (hl : lv_has ls 7 (lvL b ag am qo i)) : W p l e room_1 s m #[Value.ref b] below meth c H locs cells slots Q (F0 m 1303 ls []) := by
  obtain ⟨hx, hb, hml, hown, hts, hK, hX, hXm, hst, hA, hXs, hbl, hbA⟩ := F
  have hl : lv_has ls 7 [(0, .ref b), (1, .ref ag), (2, .ref am), (3, .ref qo), (4, .int i)] := hl
  refine lv_aload_n hx hb dL_law_1303 rfl (lv_at hl 1 rfl) ?_
  refine lv_aload_n hx hb dL_law_1304 rfl (lv_at hl 0 rfl) ?_
  refine lv_iload hx hb dL_law_1305 (lv_at hl 4 rfl) ?_
  refine lv_iconst (v := 1) hx hb dL_law_1307 (by decide) ?_
  refine lv_iadd hx hb dL_law_1308 ?_
  refine va_sld hx hb hXs hbl hbA hS (vin_law h0 h1 hL (by decide)) dL_law_1309 ?_
  refine lv_aload_n hx hb dL_law_1310 rfl (lv_at hl 0 rfl) ?_
  refine lv_iload hx hb dL_law_1311 (lv_at hl 4 rfl) ?_
  refine lv_iconst (v := 2) hx hb dL_law_1313 (by decide) ?_
  refine lv_iadd hx hb dL_law_1314 ?_
  refine va_sld hx hb hXs hbl hbA hS (vin_law h0 h1 hL (by decide)) dL_law_1315 ?_
  refine lv_aload_n hx hb dL_law_1316 rfl (lv_at hl 0 rfl) ?_
  refine lv_iload hx hb dL_law_1317 (lv_at hl 4 rfl) ?_
  refine lv_iconst (v := 3) hx hb dL_law_1319 (by decide) ?_
  refine lv_iadd hx hb dL_law_1320 ?_
  refine va_sld hx hb hXs hbl hbA hS (vin_law h0 h1 hL (by decide)) dL_law_1321 ?_
  refine lv_aload_n hx hb dL_law_1322 rfl (lv_at hl 3 rfl) ?_
  refine kHS (rest := []) (X := wg ++ [oc ct qo fo]) (pl := wm) ⟨hx, hb, hml, hown, hts⟩ (w_wet l hst D ct ad sw wa ag qo H.size o q wg fo (xs (i + 1).toNatClampNeg) (xs (i + 2).toNatClampNeg) (xs (i + 3).toNatClampNeg) hG) (vx_cwSW 5 hts kw_W_wet rfl rfl rfl (by decide +kernel) ⟨(Nat.le_of_ble_eq_true rfl), (Nat.le_of_ble_eq_true rfl)⟩) (EL_ok ad sw wa) hX hK hP hD hS hA rfl hl.1 rfl (Nat.le_of_ble_eq_true rfl) dL_law_1323 ⟨by show cells + 5 ≤ 601024; omega, by show slots + 30 ≤ 7293034; omega⟩ (fun r u H locs hr hP hD hS => ?_)
  obtain ⟨w1, fo1, o1⟩ := u
  have hG1 : GI ct ad ag o q w1 := by
    have h := hr.1
    have e : o1 = o := hr.2
    rw [← e]
    exact h
  have hP : va_P D vwCl ((w1 ++ [oc ct qo fo1]) ++ wm) H := hP
  have hD : va_D A ((w1 ++ [oc ct qo fo1]) ++ wm) := hD
  refine lv_istore (lv' := [(5, .int r), (0, .ref b), (1, .ref ag), (2, .ref am), (3, .ref qo), (4, .int i)]) hx hb dL_law_1326 hl (by decide) rfl (fun ls hl => ?_)
  refine lv_aload_n hx hb dL_law_1328 rfl (lv_at hl 3 rfl) ?_
  refine lv_aload_n hx hb dL_law_1329 rfl (lv_at hl 1 rfl) ?_
  refine lv_iload hx hb dL_law_1330 (lv_at hl 5 rfl) ?_
  refine lv_iconst (v := 1) hx hb dL_law_1332 (by decide) ?_
  refine lv_iadd hx hb dL_law_1333 ?_
  refine va_sld hx hb hXs hbl hbA hS (vin_law h0 h1 hL (by decide)) dL_law_1334 ?_
  refine lv_aload_n hx hb dL_law_1335 rfl (lv_at hl 1 rfl) ?_
  refine lv_iload hx hb dL_law_1336 (lv_at hl 5 rfl) ?_
  refine lv_iconst (v := 2) hx hb dL_law_1338 (by decide) ?_
  refine lv_iadd hx hb dL_law_1339 ?_
  refine va_sld hx hb hXs hbl hbA hS (vin_law h0 h1 hL (by decide)) dL_law_1340 ?_
  refine lv_aload_n hx hb dL_law_1341 rfl (lv_at hl 1 rfl) ?_
  refine lv_iload hx hb dL_law_1342 (lv_at hl 5 rfl) ?_
  refine lv_iconst (v := 3) hx hb dL_law_1344 (by decide) ?_
  refine lv_iadd hx hb dL_law_1345 ?_
  refine va_sld hx hb hXs hbl hbA hS (vin_law h0 h1 hL (by decide)) dL_law_1346 ?_
  refine sM_wet (rest := []) (wx := w1 ++ [oc ct qo fo1]) ⟨hx, hb, hml, hown, hts⟩ (cwV 3 hts kw_M_wet rfl rfl rfl (by decide +kernel) ⟨(Nat.le_of_ble_eq_true rfl), (Nat.le_of_ble_eq_true rfl)⟩) hM hK (pc_ hP) (dc_ hD) hS hA hl.1 (Nat.le_of_ble_eq_true rfl) dL_law_1347 ⟨by show cells + 5 + 0 ≤ 601024; omega, by show slots + 30 + 0 ≤ 7293034; omega⟩ (xs (i + 1).toNatClampNeg) (xs (i + 2).toNatClampNeg) (xs (i + 3).toNatClampNeg) (fun r2 q2 w2 H locs hx2 hM2 hP hD hS => ?_)
  have hP := pc_ hP
  have hD := dc_ hD
  have hG2 : GI ct ad ag o q2 w1 := GI_kq hG1 hx2
  refine lv_istore (lv' := [(6, .int r2), (5, .int r), (0, .ref b), (1, .ref ag), (2, .ref am), (3, .ref qo), (4, .int i)]) hx hb dL_law_1350 hl (by decide) rfl (fun ls hl => ?_)
  refine lv_goto (tgt := 1483) hx hb dL_law_1352 (by decide) ?_
  exact W.widen (by show cells + 5 + 0 ≤ cells + 5; omega) (by show slots + 30 + 0 ≤ slots + 30; omega) (K o q2 w1 w2 fo1 H locs ls hG2 hM2 hP hD hS (lv_sub hl [2, 3, 4, 5, 6] rfl))
theorem lc_31 (F : LF p l s m c b L xs D ct ad sw sad wa A) (h0 : 0 ≤ i.toInt) (h1 : i.toInt + 6 ≤ (L : Int)) (hL : L ≤ 3072) (hc : cells + 5 ≤ 601024 ∧ slots + 30 ≤ 7293034) (K : LK p l e s m below meth c b ag am qo D ct ad sad A Q i (cells + 5) (slots + 30)) (hG : GI ct ad ag o q wg) (hM : MI ct sad am o q (fun _ => True) wm) (hP : va_P D vwCl ((wg ++ [oc ct qo fo]) ++ wm) H) (hD : va_D A ((wg ++ [oc ct qo fo]) ++ wm)) (hS : va_S A s.heap H locs) (hl : lv_has ls 7 (lvL b ag am qo i)) : W p l e room_1 s m #[Value.ref b] below meth c H locs cells slots Q (F0 m 1355 ls []) := by
  obtain ⟨hx, hb, hml, hown, hts, hK, hX, hXm, hst, hA, hXs, hbl, hbA⟩ := F
  have hl : lv_has ls 7 [(0, .ref b), (1, .ref ag), (2, .ref am), (3, .ref qo), (4, .int i)] := hl
  refine lv_aload_n hx hb dL_law_1355 rfl (lv_at hl 1 rfl) ?_
  refine lv_aload_n hx hb dL_law_1356 rfl (lv_at hl 0 rfl) ?_
  refine lv_iload hx hb dL_law_1357 (lv_at hl 4 rfl) ?_
  refine lv_iconst (v := 1) hx hb dL_law_1359 (by decide) ?_
  refine lv_iadd hx hb dL_law_1360 ?_
  refine va_sld hx hb hXs hbl hbA hS (vin_law h0 h1 hL (by decide)) dL_law_1361 ?_
  refine lv_aload_n hx hb dL_law_1362 rfl (lv_at hl 0 rfl) ?_
  refine lv_iload hx hb dL_law_1363 (lv_at hl 4 rfl) ?_
  refine lv_iconst (v := 2) hx hb dL_law_1365 (by decide) ?_
  refine lv_iadd hx hb dL_law_1366 ?_
  refine va_sld hx hb hXs hbl hbA hS (vin_law h0 h1 hL (by decide)) dL_law_1367 ?_
  refine lv_aload_n hx hb dL_law_1368 rfl (lv_at hl 0 rfl) ?_
  refine lv_iload hx hb dL_law_1369 (lv_at hl 4 rfl) ?_
  refine lv_iconst (v := 3) hx hb dL_law_1371 (by decide) ?_
  refine lv_iadd hx hb dL_law_1372 ?_
  refine va_sld hx hb hXs hbl hbA hS (vin_law h0 h1 hL (by decide)) dL_law_1373 ?_
  refine lv_aload_n hx hb dL_law_1374 rfl (lv_at hl 3 rfl) ?_
  refine kHS (rest := []) (X := wg ++ [oc ct qo fo]) (pl := wm) ⟨hx, hb, hml, hown, hts⟩ (w_game l hst D ct ad sw wa ag qo H.size o q wg fo (xs (i + 1).toNatClampNeg) (xs (i + 2).toNatClampNeg) (xs (i + 3).toNatClampNeg) hG) (vx_cwSW 5 hts kw_W_game rfl rfl rfl (by decide +kernel) ⟨(Nat.le_of_ble_eq_true rfl), (Nat.le_of_ble_eq_true rfl)⟩) (EL_ok ad sw wa) hX hK hP hD hS hA rfl hl.1 rfl (Nat.le_of_ble_eq_true rfl) dL_law_1375 ⟨by show cells + 5 ≤ 601024; omega, by show slots + 30 ≤ 7293034; omega⟩ (fun r u H locs hr hP hD hS => ?_)
  obtain ⟨w1, fo1, o1⟩ := u
  have hG1 : GI ct ad ag o q w1 := by
    have h := hr.1
    have e : o1 = o := hr.2
    rw [← e]
    exact h
  have hP : va_P D vwCl ((w1 ++ [oc ct qo fo1]) ++ wm) H := hP
  have hD : va_D A ((w1 ++ [oc ct qo fo1]) ++ wm) := hD
  refine lv_istore (lv' := [(5, .int r), (0, .ref b), (1, .ref ag), (2, .ref am), (3, .ref qo), (4, .int i)]) hx hb dL_law_1378 hl (by decide) rfl (fun ls hl => ?_)
  refine lv_aload_n hx hb dL_law_1380 rfl (lv_at hl 3 rfl) ?_
  refine lv_aload_n hx hb dL_law_1381 rfl (lv_at hl 1 rfl) ?_
  refine lv_iload hx hb dL_law_1382 (lv_at hl 5 rfl) ?_
  refine lv_iconst (v := 1) hx hb dL_law_1384 (by decide) ?_
  refine lv_iadd hx hb dL_law_1385 ?_
  refine va_sld hx hb hXs hbl hbA hS (vin_law h0 h1 hL (by decide)) dL_law_1386 ?_
  refine lv_aload_n hx hb dL_law_1387 rfl (lv_at hl 1 rfl) ?_
  refine lv_iload hx hb dL_law_1388 (lv_at hl 5 rfl) ?_
  refine lv_iconst (v := 2) hx hb dL_law_1390 (by decide) ?_
  refine lv_iadd hx hb dL_law_1391 ?_
  refine va_sld hx hb hXs hbl hbA hS (vin_law h0 h1 hL (by decide)) dL_law_1392 ?_
  refine lv_aload_n hx hb dL_law_1393 rfl (lv_at hl 1 rfl) ?_
  refine lv_iload hx hb dL_law_1394 (lv_at hl 5 rfl) ?_
  refine lv_iconst (v := 3) hx hb dL_law_1396 (by decide) ?_
  refine lv_iadd hx hb dL_law_1397 ?_
  refine va_sld hx hb hXs hbl hbA hS (vin_law h0 h1 hL (by decide)) dL_law_1398 ?_
  refine sM_game (rest := []) (wx := w1 ++ [oc ct qo fo1]) ⟨hx, hb, hml, hown, hts⟩ (cwV 3 hts kw_M_game rfl rfl rfl (by decide +kernel) ⟨(Nat.le_of_ble_eq_true rfl), (Nat.le_of_ble_eq_true rfl)⟩) hM hK (pc_ hP) (dc_ hD) hS hA hl.1 (Nat.le_of_ble_eq_true rfl) dL_law_1399 ⟨by show cells + 5 + 0 ≤ 601024; omega, by show slots + 30 + 0 ≤ 7293034; omega⟩ (xs (i + 1).toNatClampNeg) (xs (i + 2).toNatClampNeg) (xs (i + 3).toNatClampNeg) (fun r2 q2 w2 H locs hx2 hM2 hP hD hS => ?_)
  have hP := pc_ hP
  have hD := dc_ hD
  have hG2 : GI ct ad ag o q2 w1 := GI_kq hG1 hx2
  refine lv_istore (lv' := [(6, .int r2), (5, .int r), (0, .ref b), (1, .ref ag), (2, .ref am), (3, .ref qo), (4, .int i)]) hx hb dL_law_1402 hl (by decide) rfl (fun ls hl => ?_)
  refine lv_goto (tgt := 1483) hx hb dL_law_1404 (by decide) ?_
  exact W.widen (by show cells + 5 + 0 ≤ cells + 5; omega) (by show slots + 30 + 0 ≤ slots + 30; omega) (K o q2 w1 w2 fo1 H locs ls hG2 hM2 hP hD hS (lv_sub hl [2, 3, 4, 5, 6] rfl))
theorem lc_32 (F : LF p l s m c b L xs D ct ad sw sad wa A) (h0 : 0 ≤ i.toInt) (h1 : i.toInt + 6 ≤ (L : Int)) (hL : L ≤ 3072) (hc : cells + 5 ≤ 601024 ∧ slots + 30 ≤ 7293034) (K : LK p l e s m below meth c b ag am qo D ct ad sad A Q i (cells + 5) (slots + 30)) (hG : GI ct ad ag o q wg) (hM : MI ct sad am o q (fun _ => True) wm) (hP : va_P D vwCl ((wg ++ [oc ct qo fo]) ++ wm) H) (hD : va_D A ((wg ++ [oc ct qo fo]) ++ wm)) (hS : va_S A s.heap H locs) (hl : lv_has ls 7 (lvL b ag am qo i)) : W p l e room_1 s m #[Value.ref b] below meth c H locs cells slots Q (F0 m 1407 ls []) := by
  obtain ⟨hx, hb, hml, hown, hts, hK, hX, hXm, hst, hA, hXs, hbl, hbA⟩ := F
  have hl : lv_has ls 7 [(0, .ref b), (1, .ref ag), (2, .ref am), (3, .ref qo), (4, .int i)] := hl
  refine lv_aload_n hx hb dL_law_1407 rfl (lv_at hl 1 rfl) ?_
  refine lv_aload_n hx hb dL_law_1408 rfl (lv_at hl 0 rfl) ?_
  refine lv_iload hx hb dL_law_1409 (lv_at hl 4 rfl) ?_
  refine lv_iconst (v := 1) hx hb dL_law_1411 (by decide) ?_
  refine lv_iadd hx hb dL_law_1412 ?_
  refine va_sld hx hb hXs hbl hbA hS (vin_law h0 h1 hL (by decide)) dL_law_1413 ?_
  refine lv_aload_n hx hb dL_law_1414 rfl (lv_at hl 0 rfl) ?_
  refine lv_iload hx hb dL_law_1415 (lv_at hl 4 rfl) ?_
  refine lv_iconst (v := 2) hx hb dL_law_1417 (by decide) ?_
  refine lv_iadd hx hb dL_law_1418 ?_
  refine va_sld hx hb hXs hbl hbA hS (vin_law h0 h1 hL (by decide)) dL_law_1419 ?_
  refine lv_aload_n hx hb dL_law_1420 rfl (lv_at hl 0 rfl) ?_
  refine lv_iload hx hb dL_law_1421 (lv_at hl 4 rfl) ?_
  refine lv_iconst (v := 3) hx hb dL_law_1423 (by decide) ?_
  refine lv_iadd hx hb dL_law_1424 ?_
  refine va_sld hx hb hXs hbl hbA hS (vin_law h0 h1 hL (by decide)) dL_law_1425 ?_
  refine lv_aload_n hx hb dL_law_1426 rfl (lv_at hl 3 rfl) ?_
  refine kHS (rest := []) (X := wg ++ [oc ct qo fo]) (pl := wm) ⟨hx, hb, hml, hown, hts⟩ (w_ages l hst D ct ad sw wa ag qo H.size o q wg fo (xs (i + 1).toNatClampNeg) (xs (i + 2).toNatClampNeg) (xs (i + 3).toNatClampNeg) hG) (vx_cwSW 5 hts kw_W_ages rfl rfl rfl (by decide +kernel) ⟨(Nat.le_of_ble_eq_true rfl), (Nat.le_of_ble_eq_true rfl)⟩) (EL_ok ad sw wa) hX hK hP hD hS hA rfl hl.1 rfl (Nat.le_of_ble_eq_true rfl) dL_law_1427 ⟨by show cells + 5 ≤ 601024; omega, by show slots + 30 ≤ 7293034; omega⟩ (fun r u H locs hr hP hD hS => ?_)
  obtain ⟨w1, fo1, o1⟩ := u
  have hG1 : GI ct ad ag o q w1 := by
    have h := hr.1
    have e : o1 = o := hr.2
    rw [← e]
    exact h
  have hP : va_P D vwCl ((w1 ++ [oc ct qo fo1]) ++ wm) H := hP
  have hD : va_D A ((w1 ++ [oc ct qo fo1]) ++ wm) := hD
  refine lv_istore (lv' := [(5, .int r), (0, .ref b), (1, .ref ag), (2, .ref am), (3, .ref qo), (4, .int i)]) hx hb dL_law_1430 hl (by decide) rfl (fun ls hl => ?_)
  refine lv_aload_n hx hb dL_law_1432 rfl (lv_at hl 3 rfl) ?_
  refine lv_aload_n hx hb dL_law_1433 rfl (lv_at hl 1 rfl) ?_
  refine lv_iload hx hb dL_law_1434 (lv_at hl 5 rfl) ?_
  refine lv_iconst (v := 1) hx hb dL_law_1436 (by decide) ?_
  refine lv_iadd hx hb dL_law_1437 ?_
  refine va_sld hx hb hXs hbl hbA hS (vin_law h0 h1 hL (by decide)) dL_law_1438 ?_
  refine lv_aload_n hx hb dL_law_1439 rfl (lv_at hl 1 rfl) ?_
  refine lv_iload hx hb dL_law_1440 (lv_at hl 5 rfl) ?_
  refine lv_iconst (v := 2) hx hb dL_law_1442 (by decide) ?_
  refine lv_iadd hx hb dL_law_1443 ?_
  refine va_sld hx hb hXs hbl hbA hS (vin_law h0 h1 hL (by decide)) dL_law_1444 ?_
  refine lv_aload_n hx hb dL_law_1445 rfl (lv_at hl 1 rfl) ?_
  refine lv_iload hx hb dL_law_1446 (lv_at hl 5 rfl) ?_
  refine lv_iconst (v := 3) hx hb dL_law_1448 (by decide) ?_
  refine lv_iadd hx hb dL_law_1449 ?_
  refine va_sld hx hb hXs hbl hbA hS (vin_law h0 h1 hL (by decide)) dL_law_1450 ?_
  refine sM_ages (rest := []) (wx := w1 ++ [oc ct qo fo1]) ⟨hx, hb, hml, hown, hts⟩ (cwV 3 hts kw_M_ages rfl rfl rfl (by decide +kernel) ⟨(Nat.le_of_ble_eq_true rfl), (Nat.le_of_ble_eq_true rfl)⟩) hM hK (pc_ hP) (dc_ hD) hS hA hl.1 (Nat.le_of_ble_eq_true rfl) dL_law_1451 ⟨by show cells + 5 + 0 ≤ 601024; omega, by show slots + 30 + 0 ≤ 7293034; omega⟩ (xs (i + 1).toNatClampNeg) (xs (i + 2).toNatClampNeg) (xs (i + 3).toNatClampNeg) (fun r2 q2 w2 H locs hx2 hM2 hP hD hS => ?_)
  have hP := pc_ hP
  have hD := dc_ hD
  have hG2 : GI ct ad ag o q2 w1 := GI_kq hG1 hx2
  refine lv_istore (lv' := [(6, .int r2), (5, .int r), (0, .ref b), (1, .ref ag), (2, .ref am), (3, .ref qo), (4, .int i)]) hx hb dL_law_1454 hl (by decide) rfl (fun ls hl => ?_)
  refine lv_goto (tgt := 1483) hx hb dL_law_1456 (by decide) ?_
  exact W.widen (by show cells + 5 + 0 ≤ cells + 5; omega) (by show slots + 30 + 0 ≤ slots + 30; omega) (K o q2 w1 w2 fo1 H locs ls hG2 hM2 hP hD hS (lv_sub hl [2, 3, 4, 5, 6] rfl))
theorem lc_33 (F : LF p l s m c b L xs D ct ad sw sad wa A) (h0 : 0 ≤ i.toInt) (h1 : i.toInt + 6 ≤ (L : Int)) (hL : L ≤ 3072) (hc : cells + 5 ≤ 601024 ∧ slots + 30 ≤ 7293034) (K : LK p l e s m below meth c b ag am qo D ct ad sad A Q i (cells + 5) (slots + 30)) (hG : GI ct ad ag o q wg) (hM : MI ct sad am o q (fun _ => True) wm) (hP : va_P D vwCl ((wg ++ [oc ct qo fo]) ++ wm) H) (hD : va_D A ((wg ++ [oc ct qo fo]) ++ wm)) (hS : va_S A s.heap H locs) (hl : lv_has ls 7 (lvL b ag am qo i)) : W p l e room_1 s m #[Value.ref b] below meth c H locs cells slots Q (F0 m 1459 ls []) := by
  obtain ⟨hx, hb, hml, hown, hts, hK, hX, hXm, hst, hA, hXs, hbl, hbA⟩ := F
  have hl : lv_has ls 7 [(0, .ref b), (1, .ref ag), (2, .ref am), (3, .ref qo), (4, .int i)] := hl
  refine lv_aload_n hx hb dL_law_1459 rfl (lv_at hl 1 rfl) ?_
  refine sG_image (rest := []) (wx := [oc ct qo fo] ++ wm) ⟨hx, hb, hml, hown, hts⟩ (cwV 0 hts kw_G_image rfl rfl rfl (by decide +kernel) ⟨(Nat.le_of_ble_eq_true rfl), (Nat.le_of_ble_eq_true rfl)⟩) hG hK (as1 hP) (ad1 hD) hS hA hl.1 (Nat.le_of_ble_eq_true rfl) dL_law_1460 ⟨by show cells + 0 ≤ 601024; omega, by show slots + 0 ≤ 7293034; omega⟩ (fun o1 w1 H locs ho1 hF hP hD hS => ?_)
  have hP := as2 hP
  have hD := ad2 hD
  refine lv_aload_n hx hb dL_law_1463 rfl (lv_at hl 2 rfl) ?_
  refine sM_image (rest := []) (wx := w1 ++ [oc ct qo fo]) ⟨hx, hb, hml, hown, hts⟩ (cwV 0 hts kw_M_image rfl rfl rfl (by decide +kernel) ⟨(Nat.le_of_ble_eq_true rfl), (Nat.le_of_ble_eq_true rfl)⟩) hM hK (pc_ hP) (dc_ hD) hS hA hl.1 (Nat.le_of_ble_eq_true rfl) dL_law_1464 ⟨by show cells + 0 + 0 ≤ 601024; omega, by show slots + 0 + 0 ≤ 7293034; omega⟩ (fun o2 c2 q2 w2 H locs ho2 hx2 hM2 hP hD hS => ?_)
  have hP := pc_ hP
  have hD := dc_ hD
  have hM2 : MI ct sad am o1 q2 (fun _ => True) w2 := by
    rw [ho1.trans ho2.symm]; exact hM2
  have hG2 : GI ct ad ag o1 q2 w1 := (hF c2 q2 hx2).2
  refine lv_goto (tgt := 1483) hx hb dL_law_1467 (by decide) ?_
  exact W.widen (by show cells + 0 + 0 ≤ cells + 5; omega) (by show slots + 0 + 0 ≤ slots + 30; omega) (K o1 q2 w1 w2 fo H locs ls hG2 hM2 hP hD hS (lv_sub hl [0, 1, 2, 3, 4] rfl))
theorem lc_34 (F : LF p l s m c b L xs D ct ad sw sad wa A) (h0 : 0 ≤ i.toInt) (h1 : i.toInt + 6 ≤ (L : Int)) (hL : L ≤ 3072) (hc : cells + 5 ≤ 601024 ∧ slots + 30 ≤ 7293034) (K : LK p l e s m below meth c b ag am qo D ct ad sad A Q i (cells + 5) (slots + 30)) (hG : GI ct ad ag o q wg) (hM : MI ct sad am o q (fun _ => True) wm) (hP : va_P D vwCl ((wg ++ [oc ct qo fo]) ++ wm) H) (hD : va_D A ((wg ++ [oc ct qo fo]) ++ wm)) (hS : va_S A s.heap H locs) (hl : lv_has ls 7 (lvL b ag am qo i)) : W p l e room_1 s m #[Value.ref b] below meth c H locs cells slots Q (F0 m 1470 ls []) := by
  obtain ⟨hx, hb, hml, hown, hts, hK, hX, hXm, hst, hA, hXs, hbl, hbA⟩ := F
  have hl : lv_has ls 7 [(0, .ref b), (1, .ref ag), (2, .ref am), (3, .ref qo), (4, .int i)] := hl
  refine lv_aload_n hx hb dL_law_1470 rfl (lv_at hl 1 rfl) ?_
  refine sG_restore (rest := []) (wx := [oc ct qo fo] ++ wm) ⟨hx, hb, hml, hown, hts⟩ (cwV 0 hts kw_G_restore rfl rfl rfl (by decide +kernel) ⟨(Nat.le_of_ble_eq_true rfl), (Nat.le_of_ble_eq_true rfl)⟩) hG hK (as1 hP) (ad1 hD) hS hA hl.1 (Nat.le_of_ble_eq_true rfl) dL_law_1471 ⟨by show cells + 0 ≤ 601024; omega, by show slots + 0 ≤ 7293034; omega⟩ (fun r w1 H locs hfr hF hP hD hS => ?_)
  have hP := as2 hP
  have hD := ad2 hD
  refine lv_pop hx hb dL_law_1474 rfl ?_
  refine lv_aload_n hx hb dL_law_1475 rfl (lv_at hl 2 rfl) ?_
  refine sM_restore (rest := []) (wx := w1 ++ [oc ct qo fo]) ⟨hx, hb, hml, hown, hts⟩ (cwV 0 hts kw_M_restore rfl rfl rfl (by decide +kernel) ⟨(Nat.le_of_ble_eq_true rfl), (Nat.le_of_ble_eq_true rfl)⟩) hM hK (pc_ hP) (dc_ hD) hS hA hl.1 (Nat.le_of_ble_eq_true rfl) dL_law_1476 ⟨by show cells + 0 + 0 ≤ 601024; omega, by show slots + 0 + 0 ≤ 7293034; omega⟩ (fun r2 c2 q2 w2 H locs hfr2 hx2 hM2 hP hD hS => ?_)
  have hP := pc_ hP
  have hD := dc_ hD
  have hG2 : GI ct ad ag o q2 w1 := (hF c2 r2 q2 hx2).2.2
  refine lv_pop hx hb dL_law_1479 rfl ?_
  refine lv_goto (tgt := 1483) hx hb dL_law_1480 (by decide) ?_
  exact W.widen (by show cells + 0 + 0 ≤ cells + 5; omega) (by show slots + 0 + 0 ≤ slots + 30; omega) (K o q2 w1 w2 fo H locs ls hG2 hM2 hP hD hS (lv_sub hl [0, 1, 2, 3, 4] rfl))
end LC
