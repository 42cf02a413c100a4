abbrev rm_Model_fail : Room := { frames := 0, cells := 0, slots := 0, locals := 0 }
abbrev wgX12_fail : List Cond := .code yX12_fail cX12_fail 2 (some .int) :: gT12
set_option maxHeartbeats 4000000 in
set_option maxRecDepth 100000 in
theorem c_Model_fail (l : Launch) (D : va_G) (ct : Nat → ClassId) (q_this q_this_sorts q_this_ofWears q_this_ofSits q_this_values q_this_told q_this_jawTold q_this_browTold q_this_stoneTold q_this_orphan q_this_faceTold q_this_foreheadTold q_this_ageTold q_this_familyTold q_this_rains q_this_signsWears q_this_signsSits q_this_status q_this_tape q_this_jaw q_this_brow q_this_stone q_this_face q_this_forehead q_this_age q_this_family q_this_seat q_this_past q_this_asked q_this_stack q_this_rowThen q_this_leastBy q_this_seenWho q_this_seenIn q_this_seenJaw q_this_rowSeen q_this_fit q_this_seatThen q_this_gains q_this_imageRow q_this_pastThen q_this_seenWhoThen q_this_seenInThen q_this_seenJawThen q_this_statusThen : Nat) (sz : Nat) (x_this_code x_this_taped x_this_at x_this_size x_this_token x_this_number x_this_begins x_this_stops x_this_bad x_this_badPlace x_this_faultPlace x_this_ofSitting x_this_yearNow x_this_acts x_this_seen x_this_satDown x_this_fitMany x_this_seedNow x_this_hasImage x_this_actsThen x_this_seenThen : Int32) (p1 : Int32) (i_x_this_taped : iv x_this_taped 0 700) (i_x_this_ofSitting : iv x_this_ofSitting 0 1) (i_x_this_yearNow : iv x_this_yearNow 0 5000) (i_x_this_acts : iv x_this_acts 0 40) (i_x_this_seen : iv x_this_seen 0 8) (i_x_this_fitMany : iv x_this_fitMany 0 800) (i_x_this_hasImage : iv x_this_hasImage 0 1) (i_x_this_actsThen : iv x_this_actsThen 0 40) (i_x_this_seenThen : iv x_this_seenThen 0 8) : cI l yX12_fail wgX12_fail rm_Model_fail D ct [(q_this, .inr (11, [.ref q_this_sorts, .ref q_this_ofWears, .ref q_this_ofSits, .ref q_this_values, .int x_this_code, .ref q_this_told, .ref q_this_jawTold, .ref q_this_browTold, .ref q_this_stoneTold, .ref q_this_orphan, .ref q_this_faceTold, .ref q_this_foreheadTold, .ref q_this_ageTold, .ref q_this_familyTold, .ref q_this_rains, .ref q_this_signsWears, .ref q_this_signsSits, .ref q_this_status, .ref q_this_tape, .int x_this_taped, .int x_this_at, .int x_this_size, .int x_this_token, .int x_this_number, .int x_this_begins, .int x_this_stops, .int x_this_bad, .int x_this_badPlace, .int x_this_faultPlace, .int x_this_ofSitting, .ref q_this_jaw, .ref q_this_brow, .ref q_this_stone, .ref q_this_face, .ref q_this_forehead, .ref q_this_age, .ref q_this_family, .ref q_this_seat, .ref q_this_past, .int x_this_yearNow, .int x_this_acts, .int x_this_seen, .ref q_this_asked, .ref q_this_stack, .int x_this_satDown, .ref q_this_rowThen, .ref q_this_leastBy, .ref q_this_seenWho, .ref q_this_seenIn, .ref q_this_seenJaw, .ref q_this_rowSeen, .ref q_this_fit, .ref q_this_seatThen, .int x_this_fitMany, .ref q_this_gains, .int x_this_seedNow, .int x_this_hasImage, .int x_this_actsThen, .int x_this_seenThen, .ref q_this_imageRow, .ref q_this_pastThen, .ref q_this_seenWhoThen, .ref q_this_seenInThen, .ref q_this_seenJawThen, .ref q_this_statusThen]))] sz [.ref q_this, .int p1] (fun (r : Int32) (u : Int32) => iv r 0 0 ∧ (r, u) = m_Model_fail p1) (fun u : Int32 => [(q_this, .inr (11, [.ref q_this_sorts, .ref q_this_ofWears, .ref q_this_ofSits, .ref q_this_values, .int u, .ref q_this_told, .ref q_this_jawTold, .ref q_this_browTold, .ref q_this_stoneTold, .ref q_this_orphan, .ref q_this_faceTold, .ref q_this_foreheadTold, .ref q_this_ageTold, .ref q_this_familyTold, .ref q_this_rains, .ref q_this_signsWears, .ref q_this_signsSits, .ref q_this_status, .ref q_this_tape, .int x_this_taped, .int x_this_at, .int x_this_size, .int x_this_token, .int x_this_number, .int x_this_begins, .int x_this_stops, .int x_this_bad, .int x_this_badPlace, .int x_this_faultPlace, .int x_this_ofSitting, .ref q_this_jaw, .ref q_this_brow, .ref q_this_stone, .ref q_this_face, .ref q_this_forehead, .ref q_this_age, .ref q_this_family, .ref q_this_seat, .ref q_this_past, .int x_this_yearNow, .int x_this_acts, .int x_this_seen, .ref q_this_asked, .ref q_this_stack, .int x_this_satDown, .ref q_this_rowThen, .ref q_this_leastBy, .ref q_this_seenWho, .ref q_this_seenIn, .ref q_this_seenJaw, .ref q_this_rowSeen, .ref q_this_fit, .ref q_this_seatThen, .int x_this_fitMany, .ref q_this_gains, .int x_this_seedNow, .int x_this_hasImage, .int x_this_actsThen, .int x_this_seenThen, .ref q_this_imageRow, .ref q_this_pastThen, .ref q_this_seenWhoThen, .ref q_this_seenInThen, .ref q_this_seenJawThen, .ref q_this_statusThen]))]) := by
  refine cI_of (cc := cX12_fail) (maxL := 2) (by decide) rfl (Nat.le_of_ble_eq_true rfl) ?_
  intro p e s m args below meth c Q A hx hb hml hts hown hK hP hD hA hAe hsz hname hE ls hl
  have hS : va_S A s.heap s.heap [] := va_S.rf
  have hP : va_P D vwCl [(q_this, .inr (11, [.ref q_this_sorts, .ref q_this_ofWears, .ref q_this_ofSits, .ref q_this_values, .int x_this_code, .ref q_this_told, .ref q_this_jawTold, .ref q_this_browTold, .ref q_this_stoneTold, .ref q_this_orphan, .ref q_this_faceTold, .ref q_this_foreheadTold, .ref q_this_ageTold, .ref q_this_familyTold, .ref q_this_rains, .ref q_this_signsWears, .ref q_this_signsSits, .ref q_this_status, .ref q_this_tape, .int x_this_taped, .int x_this_at, .int x_this_size, .int x_this_token, .int x_this_number, .int x_this_begins, .int x_this_stops, .int x_this_bad, .int x_this_badPlace, .int x_this_faultPlace, .int x_this_ofSitting, .ref q_this_jaw, .ref q_this_brow, .ref q_this_stone, .ref q_this_face, .ref q_this_forehead, .ref q_this_age, .ref q_this_family, .ref q_this_seat, .ref q_this_past, .int x_this_yearNow, .int x_this_acts, .int x_this_seen, .ref q_this_asked, .ref q_this_stack, .int x_this_satDown, .ref q_this_rowThen, .ref q_this_leastBy, .ref q_this_seenWho, .ref q_this_seenIn, .ref q_this_seenJaw, .ref q_this_rowSeen, .ref q_this_fit, .ref q_this_seatThen, .int x_this_fitMany, .ref q_this_gains, .int x_this_seedNow, .int x_this_hasImage, .int x_this_actsThen, .int x_this_seenThen, .ref q_this_imageRow, .ref q_this_pastThen, .ref q_this_seenWhoThen, .ref q_this_seenInThen, .ref q_this_seenJawThen, .ref q_this_statusThen]))] s.heap := hP
  have hD : va_D A [(q_this, .inr (11, [.ref q_this_sorts, .ref q_this_ofWears, .ref q_this_ofSits, .ref q_this_values, .int x_this_code, .ref q_this_told, .ref q_this_jawTold, .ref q_this_browTold, .ref q_this_stoneTold, .ref q_this_orphan, .ref q_this_faceTold, .ref q_this_foreheadTold, .ref q_this_ageTold, .ref q_this_familyTold, .ref q_this_rains, .ref q_this_signsWears, .ref q_this_signsSits, .ref q_this_status, .ref q_this_tape, .int x_this_taped, .int x_this_at, .int x_this_size, .int x_this_token, .int x_this_number, .int x_this_begins, .int x_this_stops, .int x_this_bad, .int x_this_badPlace, .int x_this_faultPlace, .int x_this_ofSitting, .ref q_this_jaw, .ref q_this_brow, .ref q_this_stone, .ref q_this_face, .ref q_this_forehead, .ref q_this_age, .ref q_this_family, .ref q_this_seat, .ref q_this_past, .int x_this_yearNow, .int x_this_acts, .int x_this_seen, .ref q_this_asked, .ref q_this_stack, .int x_this_satDown, .ref q_this_rowThen, .ref q_this_leastBy, .ref q_this_seenWho, .ref q_this_seenIn, .ref q_this_seenJaw, .ref q_this_rowSeen, .ref q_this_fit, .ref q_this_seatThen, .int x_this_fitMany, .ref q_this_gains, .int x_this_seedNow, .int x_this_hasImage, .int x_this_actsThen, .int x_this_seenThen, .ref q_this_imageRow, .ref q_this_pastThen, .ref q_this_seenWhoThen, .ref q_this_seenInThen, .ref q_this_seenJawThen, .ref q_this_statusThen]))] := hD
  have mG : ∀ (i : Nat) {w : Cond}, gT12[i]? = some w → w ∈ wgX12_fail := fun i w h => List.mem_cons_of_mem _ (List.mem_of_getElem? h)
  have hl : lv_has ls 2 [(0, .ref q_this), (1, .int p1)] := hl
  obtain ⟨R, hRe⟩ : ∃ R : (Int32 × Int32), R = m_Model_fail p1 := ⟨_, rfl⟩
  have hR : uy_Q R (fun z : (Int32 × Int32) => z) (m_Model_fail p1) := hRe
  have hin_Model : ∀ w ∈ u_ws RX12 TX12 65, w ∈ wgX12_fail := fun w h => List.mem_cons_of_mem _ (ingT12_X12 w h)
  delta m_Model_fail at hR
  refine lv_aload_n hx hb dX12_fail_0 rfl (lv_at hl 0 rfl) ?_
  refine lv_iload_n hx hb dX12_fail_1 rfl (lv_at hl 1 rfl) ?_
  refine va_put (D := D) (ci := 11) (v := .int p1) (ty := .int) (C := RX12) (T := TX12) (N := 65) hx hb hts hin_Model tyX12 tyX12_ok nmX12 hown hK hP hD hS 0 rfl rfl 4 (by decide) (hts (.fieldLink RX12 163 "GutterSeatsModel" "code" "I") (List.mem_cons_of_mem _ (gm12 0 52 (by first | rfl | decide +kernel)))) (fun _ h9 => h9) rfl (by first | exact tyX12_ok 4 (by decide) | decide +kernel) rfl rfl (Nat.le_of_ble_eq_true rfl) dX12_fail_2 (fun H locs hP hD hS => ?_)
  have hP : va_P D vwCl [(q_this, .inr (11, [.ref q_this_sorts, .ref q_this_ofWears, .ref q_this_ofSits, .ref q_this_values, .int p1, .ref q_this_told, .ref q_this_jawTold, .ref q_this_browTold, .ref q_this_stoneTold, .ref q_this_orphan, .ref q_this_faceTold, .ref q_this_foreheadTold, .ref q_this_ageTold, .ref q_this_familyTold, .ref q_this_rains, .ref q_this_signsWears, .ref q_this_signsSits, .ref q_this_status, .ref q_this_tape, .int x_this_taped, .int x_this_at, .int x_this_size, .int x_this_token, .int x_this_number, .int x_this_begins, .int x_this_stops, .int x_this_bad, .int x_this_badPlace, .int x_this_faultPlace, .int x_this_ofSitting, .ref q_this_jaw, .ref q_this_brow, .ref q_this_stone, .ref q_this_face, .ref q_this_forehead, .ref q_this_age, .ref q_this_family, .ref q_this_seat, .ref q_this_past, .int x_this_yearNow, .int x_this_acts, .int x_this_seen, .ref q_this_asked, .ref q_this_stack, .int x_this_satDown, .ref q_this_rowThen, .ref q_this_leastBy, .ref q_this_seenWho, .ref q_this_seenIn, .ref q_this_seenJaw, .ref q_this_rowSeen, .ref q_this_fit, .ref q_this_seatThen, .int x_this_fitMany, .ref q_this_gains, .int x_this_seedNow, .int x_this_hasImage, .int x_this_actsThen, .int x_this_seenThen, .ref q_this_imageRow, .ref q_this_pastThen, .ref q_this_seenWhoThen, .ref q_this_seenInThen, .ref q_this_seenJawThen, .ref q_this_statusThen]))] H := hP
  have hD : va_D A [(q_this, .inr (11, [.ref q_this_sorts, .ref q_this_ofWears, .ref q_this_ofSits, .ref q_this_values, .int p1, .ref q_this_told, .ref q_this_jawTold, .ref q_this_browTold, .ref q_this_stoneTold, .ref q_this_orphan, .ref q_this_faceTold, .ref q_this_foreheadTold, .ref q_this_ageTold, .ref q_this_familyTold, .ref q_this_rains, .ref q_this_signsWears, .ref q_this_signsSits, .ref q_this_status, .ref q_this_tape, .int x_this_taped, .int x_this_at, .int x_this_size, .int x_this_token, .int x_this_number, .int x_this_begins, .int x_this_stops, .int x_this_bad, .int x_this_badPlace, .int x_this_faultPlace, .int x_this_ofSitting, .ref q_this_jaw, .ref q_this_brow, .ref q_this_stone, .ref q_this_face, .ref q_this_forehead, .ref q_this_age, .ref q_this_family, .ref q_this_seat, .ref q_this_past, .int x_this_yearNow, .int x_this_acts, .int x_this_seen, .ref q_this_asked, .ref q_this_stack, .int x_this_satDown, .ref q_this_rowThen, .ref q_this_leastBy, .ref q_this_seenWho, .ref q_this_seenIn, .ref q_this_seenJaw, .ref q_this_rowSeen, .ref q_this_fit, .ref q_this_seatThen, .int x_this_fitMany, .ref q_this_gains, .int x_this_seedNow, .int x_this_hasImage, .int x_this_actsThen, .int x_this_seenThen, .ref q_this_imageRow, .ref q_this_pastThen, .ref q_this_seenWhoThen, .ref q_this_seenInThen, .ref q_this_seenJawThen, .ref q_this_statusThen]))] := hD
  refine lv_iconst (v := 0) hx hb dX12_fail_5 (by decide) ?_
  exact hE _ p1 _ _ _ _ ⟨(iv_lit (0 : Int32) (by decide) : iv (0 : Int32) 0 0), ((uy_Q0 hR).symm.trans hRe)⟩ hP hD hS dX12_fail_6
abbrev rm_Model_failing : Room := { frames := 0, cells := 0, slots := 0, locals := 0 }
abbrev wgX12_failing : List Cond := .code yX12_failing cX12_failing 2 (some .boolean) :: gT12
set_option maxHeartbeats 4000000 in
set_option maxRecDepth 100000 in
theorem c_Model_failing (l : Launch) (D : va_G) (ct : Nat → ClassId) (q_this q_this_sorts q_this_ofWears q_this_ofSits q_this_values q_this_told q_this_jawTold q_this_browTold q_this_stoneTold q_this_orphan q_this_faceTold q_this_foreheadTold q_this_ageTold q_this_familyTold q_this_rains q_this_signsWears q_this_signsSits q_this_status q_this_tape q_this_jaw q_this_brow q_this_stone q_this_face q_this_forehead q_this_age q_this_family q_this_seat q_this_past q_this_asked q_this_stack q_this_rowThen q_this_leastBy q_this_seenWho q_this_seenIn q_this_seenJaw q_this_rowSeen q_this_fit q_this_seatThen q_this_gains q_this_imageRow q_this_pastThen q_this_seenWhoThen q_this_seenInThen q_this_seenJawThen q_this_statusThen : Nat) (sz : Nat) (x_this_code x_this_taped x_this_at x_this_size x_this_token x_this_number x_this_begins x_this_stops x_this_bad x_this_badPlace x_this_faultPlace x_this_ofSitting x_this_yearNow x_this_acts x_this_seen x_this_satDown x_this_fitMany x_this_seedNow x_this_hasImage x_this_actsThen x_this_seenThen : Int32) (p1 : Int32) (i_x_this_taped : iv x_this_taped 0 700) (i_x_this_ofSitting : iv x_this_ofSitting 0 1) (i_x_this_yearNow : iv x_this_yearNow 0 5000) (i_x_this_acts : iv x_this_acts 0 40) (i_x_this_seen : iv x_this_seen 0 8) (i_x_this_fitMany : iv x_this_fitMany 0 800) (i_x_this_hasImage : iv x_this_hasImage 0 1) (i_x_this_actsThen : iv x_this_actsThen 0 40) (i_x_this_seenThen : iv x_this_seenThen 0 8) : cI l yX12_failing wgX12_failing rm_Model_failing D ct [(q_this, .inr (11, [.ref q_this_sorts, .ref q_this_ofWears, .ref q_this_ofSits, .ref q_this_values, .int x_this_code, .ref q_this_told, .ref q_this_jawTold, .ref q_this_browTold, .ref q_this_stoneTold, .ref q_this_orphan, .ref q_this_faceTold, .ref q_this_foreheadTold, .ref q_this_ageTold, .ref q_this_familyTold, .ref q_this_rains, .ref q_this_signsWears, .ref q_this_signsSits, .ref q_this_status, .ref q_this_tape, .int x_this_taped, .int x_this_at, .int x_this_size, .int x_this_token, .int x_this_number, .int x_this_begins, .int x_this_stops, .int x_this_bad, .int x_this_badPlace, .int x_this_faultPlace, .int x_this_ofSitting, .ref q_this_jaw, .ref q_this_brow, .ref q_this_stone, .ref q_this_face, .ref q_this_forehead, .ref q_this_age, .ref q_this_family, .ref q_this_seat, .ref q_this_past, .int x_this_yearNow, .int x_this_acts, .int x_this_seen, .ref q_this_asked, .ref q_this_stack, .int x_this_satDown, .ref q_this_rowThen, .ref q_this_leastBy, .ref q_this_seenWho, .ref q_this_seenIn, .ref q_this_seenJaw, .ref q_this_rowSeen, .ref q_this_fit, .ref q_this_seatThen, .int x_this_fitMany, .ref q_this_gains, .int x_this_seedNow, .int x_this_hasImage, .int x_this_actsThen, .int x_this_seenThen, .ref q_this_imageRow, .ref q_this_pastThen, .ref q_this_seenWhoThen, .ref q_this_seenInThen, .ref q_this_seenJawThen, .ref q_this_statusThen]))] sz [.ref q_this, .int p1] (fun (r : Int32) (u : Int32) => iv r 0 0 ∧ (r, u) = m_Model_failing p1) (fun u : Int32 => [(q_this, .inr (11, [.ref q_this_sorts, .ref q_this_ofWears, .ref q_this_ofSits, .ref q_this_values, .int u, .ref q_this_told, .ref q_this_jawTold, .ref q_this_browTold, .ref q_this_stoneTold, .ref q_this_orphan, .ref q_this_faceTold, .ref q_this_foreheadTold, .ref q_this_ageTold, .ref q_this_familyTold, .ref q_this_rains, .ref q_this_signsWears, .ref q_this_signsSits, .ref q_this_status, .ref q_this_tape, .int x_this_taped, .int x_this_at, .int x_this_size, .int x_this_token, .int x_this_number, .int x_this_begins, .int x_this_stops, .int x_this_bad, .int x_this_badPlace, .int x_this_faultPlace, .int x_this_ofSitting, .ref q_this_jaw, .ref q_this_brow, .ref q_this_stone, .ref q_this_face, .ref q_this_forehead, .ref q_this_age, .ref q_this_family, .ref q_this_seat, .ref q_this_past, .int x_this_yearNow, .int x_this_acts, .int x_this_seen, .ref q_this_asked, .ref q_this_stack, .int x_this_satDown, .ref q_this_rowThen, .ref q_this_leastBy, .ref q_this_seenWho, .ref q_this_seenIn, .ref q_this_seenJaw, .ref q_this_rowSeen, .ref q_this_fit, .ref q_this_seatThen, .int x_this_fitMany, .ref q_this_gains, .int x_this_seedNow, .int x_this_hasImage, .int x_this_actsThen, .int x_this_seenThen, .ref q_this_imageRow, .ref q_this_pastThen, .ref q_this_seenWhoThen, .ref q_this_seenInThen, .ref q_this_seenJawThen, .ref q_this_statusThen]))]) := by
  refine cIz_of (cc := cX12_failing) (maxL := 2) (by decide) rfl (Nat.le_of_ble_eq_true rfl) ?_
  intro p e s m args below meth c Q A hx hb hml hts hown hK hP hD hA hAe hsz hname hE ls hl
  have hS : va_S A s.heap s.heap [] := va_S.rf
  have hP : va_P D vwCl [(q_this, .inr (11, [.ref q_this_sorts, .ref q_this_ofWears, .ref q_this_ofSits, .ref q_this_values, .int x_this_code, .ref q_this_told, .ref q_this_jawTold, .ref q_this_browTold, .ref q_this_stoneTold, .ref q_this_orphan, .ref q_this_faceTold, .ref q_this_foreheadTold, .ref q_this_ageTold, .ref q_this_familyTold, .ref q_this_rains, .ref q_this_signsWears, .ref q_this_signsSits, .ref q_this_status, .ref q_this_tape, .int x_this_taped, .int x_this_at, .int x_this_size, .int x_this_token, .int x_this_number, .int x_this_begins, .int x_this_stops, .int x_this_bad, .int x_this_badPlace, .int x_this_faultPlace, .int x_this_ofSitting, .ref q_this_jaw, .ref q_this_brow, .ref q_this_stone, .ref q_this_face, .ref q_this_forehead, .ref q_this_age, .ref q_this_family, .ref q_this_seat, .ref q_this_past, .int x_this_yearNow, .int x_this_acts, .int x_this_seen, .ref q_this_asked, .ref q_this_stack, .int x_this_satDown, .ref q_this_rowThen, .ref q_this_leastBy, .ref q_this_seenWho, .ref q_this_seenIn, .ref q_this_seenJaw, .ref q_this_rowSeen, .ref q_this_fit, .ref q_this_seatThen, .int x_this_fitMany, .ref q_this_gains, .int x_this_seedNow, .int x_this_hasImage, .int x_this_actsThen, .int x_this_seenThen, .ref q_this_imageRow, .ref q_this_pastThen, .ref q_this_seenWhoThen, .ref q_this_seenInThen, .ref q_this_seenJawThen, .ref q_this_statusThen]))] s.heap := hP
  have hD : va_D A [(q_this, .inr (11, [.ref q_this_sorts, .ref q_this_ofWears, .ref q_this_ofSits, .ref q_this_values, .int x_this_code, .ref q_this_told, .ref q_this_jawTold, .ref q_this_browTold, .ref q_this_stoneTold, .ref q_this_orphan, .ref q_this_faceTold, .ref q_this_foreheadTold, .ref q_this_ageTold, .ref q_this_familyTold, .ref q_this_rains, .ref q_this_signsWears, .ref q_this_signsSits, .ref q_this_status, .ref q_this_tape, .int x_this_taped, .int x_this_at, .int x_this_size, .int x_this_token, .int x_this_number, .int x_this_begins, .int x_this_stops, .int x_this_bad, .int x_this_badPlace, .int x_this_faultPlace, .int x_this_ofSitting, .ref q_this_jaw, .ref q_this_brow, .ref q_this_stone, .ref q_this_face, .ref q_this_forehead, .ref q_this_age, .ref q_this_family, .ref q_this_seat, .ref q_this_past, .int x_this_yearNow, .int x_this_acts, .int x_this_seen, .ref q_this_asked, .ref q_this_stack, .int x_this_satDown, .ref q_this_rowThen, .ref q_this_leastBy, .ref q_this_seenWho, .ref q_this_seenIn, .ref q_this_seenJaw, .ref q_this_rowSeen, .ref q_this_fit, .ref q_this_seatThen, .int x_this_fitMany, .ref q_this_gains, .int x_this_seedNow, .int x_this_hasImage, .int x_this_actsThen, .int x_this_seenThen, .ref q_this_imageRow, .ref q_this_pastThen, .ref q_this_seenWhoThen, .ref q_this_seenInThen, .ref q_this_seenJawThen, .ref q_this_statusThen]))] := hD
  have mG : ∀ (i : Nat) {w : Cond}, gT12[i]? = some w → w ∈ wgX12_failing := fun i w h => List.mem_cons_of_mem _ (List.mem_of_getElem? h)
  have hl : lv_has ls 2 [(0, .ref q_this), (1, .int p1)] := hl
  obtain ⟨R, hRe⟩ : ∃ R : (Int32 × Int32), R = m_Model_failing p1 := ⟨_, rfl⟩
  have hR : uy_Q R (fun z : (Int32 × Int32) => z) (m_Model_failing p1) := hRe
  have hin_Model : ∀ w ∈ u_ws RX12 TX12 65, w ∈ wgX12_failing := fun w h => List.mem_cons_of_mem _ (ingT12_X12 w h)
  delta m_Model_failing at hR
  refine lv_aload_n hx hb dX12_failing_0 rfl (lv_at hl 0 rfl) ?_
  refine lv_iload_n hx hb dX12_failing_1 rfl (lv_at hl 1 rfl) ?_
  refine va_put (D := D) (ci := 11) (v := .int p1) (ty := .int) (C := RX12) (T := TX12) (N := 65) hx hb hts hin_Model tyX12 tyX12_ok nmX12 hown hK hP hD hS 0 rfl rfl 4 (by decide) (hts (.fieldLink RX12 163 "GutterSeatsModel" "code" "I") (List.mem_cons_of_mem _ (gm12 0 52 (by first | rfl | decide +kernel)))) (fun _ h9 => h9) rfl (by first | exact tyX12_ok 4 (by decide) | decide +kernel) rfl rfl (Nat.le_of_ble_eq_true rfl) dX12_failing_2 (fun H locs hP hD hS => ?_)
  have hP : va_P D vwCl [(q_this, .inr (11, [.ref q_this_sorts, .ref q_this_ofWears, .ref q_this_ofSits, .ref q_this_values, .int p1, .ref q_this_told, .ref q_this_jawTold, .ref q_this_browTold, .ref q_this_stoneTold, .ref q_this_orphan, .ref q_this_faceTold, .ref q_this_foreheadTold, .ref q_this_ageTold, .ref q_this_familyTold, .ref q_this_rains, .ref q_this_signsWears, .ref q_this_signsSits, .ref q_this_status, .ref q_this_tape, .int x_this_taped, .int x_this_at, .int x_this_size, .int x_this_token, .int x_this_number, .int x_this_begins, .int x_this_stops, .int x_this_bad, .int x_this_badPlace, .int x_this_faultPlace, .int x_this_ofSitting, .ref q_this_jaw, .ref q_this_brow, .ref q_this_stone, .ref q_this_face, .ref q_this_forehead, .ref q_this_age, .ref q_this_family, .ref q_this_seat, .ref q_this_past, .int x_this_yearNow, .int x_this_acts, .int x_this_seen, .ref q_this_asked, .ref q_this_stack, .int x_this_satDown, .ref q_this_rowThen, .ref q_this_leastBy, .ref q_this_seenWho, .ref q_this_seenIn, .ref q_this_seenJaw, .ref q_this_rowSeen, .ref q_this_fit, .ref q_this_seatThen, .int x_this_fitMany, .ref q_this_gains, .int x_this_seedNow, .int x_this_hasImage, .int x_this_actsThen, .int x_this_seenThen, .ref q_this_imageRow, .ref q_this_pastThen, .ref q_this_seenWhoThen, .ref q_this_seenInThen, .ref q_this_seenJawThen, .ref q_this_statusThen]))] H := hP
  have hD : va_D A [(q_this, .inr (11, [.ref q_this_sorts, .ref q_this_ofWears, .ref q_this_ofSits, .ref q_this_values, .int p1, .ref q_this_told, .ref q_this_jawTold, .ref q_this_browTold, .ref q_this_stoneTold, .ref q_this_orphan, .ref q_this_faceTold, .ref q_this_foreheadTold, .ref q_this_ageTold, .ref q_this_familyTold, .ref q_this_rains, .ref q_this_signsWears, .ref q_this_signsSits, .ref q_this_status, .ref q_this_tape, .int x_this_taped, .int x_this_at, .int x_this_size, .int x_this_token, .int x_this_number, .int x_this_begins, .int x_this_stops, .int x_this_bad, .int x_this_badPlace, .int x_this_faultPlace, .int x_this_ofSitting, .ref q_this_jaw, .ref q_this_brow, .ref q_this_stone, .ref q_this_face, .ref q_this_forehead, .ref q_this_age, .ref q_this_family, .ref q_this_seat, .ref q_this_past, .int x_this_yearNow, .int x_this_acts, .int x_this_seen, .ref q_this_asked, .ref q_this_stack, .int x_this_satDown, .ref q_this_rowThen, .ref q_this_leastBy, .ref q_this_seenWho, .ref q_this_seenIn, .ref q_this_seenJaw, .ref q_this_rowSeen, .ref q_this_fit, .ref q_this_seatThen, .int x_this_fitMany, .ref q_this_gains, .int x_this_seedNow, .int x_this_hasImage, .int x_this_actsThen, .int x_this_seenThen, .ref q_this_imageRow, .ref q_this_pastThen, .ref q_this_seenWhoThen, .ref q_this_seenInThen, .ref q_this_seenJawThen, .ref q_this_statusThen]))] := hD
  refine lv_iconst (v := 0) hx hb dX12_failing_5 (by decide) ?_
  exact hE _ p1 _ _ _ _ (iv_lit (0 : Int32) (by decide) : iv (0 : Int32) 0 1) ⟨(iv_lit (0 : Int32) (by decide) : iv (0 : Int32) 0 0), ((uy_Q0 hR).symm.trans hRe)⟩ hP hD hS dX12_failing_6
abbrev rm_Model_isOf : Room := { frames := 0, cells := 0, slots := 0, locals := 0 }
abbrev wgX12_isOf : List Cond := .code yX12_isOf cX12_isOf 2 (some .boolean) :: gT12
set_option maxHeartbeats 4000000 in
set_option maxRecDepth 100000 in
theorem c_Model_isOf (l : Launch) (D : va_G) (ct : Nat → ClassId) (p1 p2 : Int32) : cP l yX12_isOf wgX12_isOf rm_Model_isOf D ct [] [.int p1, .int p2] (fun r : Int32 => iv r 0 1 ∧ r = m_Model_isOf p1 p2) := by
  refine cPz_of (cc := cX12_isOf) (maxL := 2) (by decide) rfl (Nat.le_of_ble_eq_true rfl) ?_
  intro p e s m args below meth c Q hx hb hml hts hown hK hP hE ls hl
  have hP : va_P D vwCl [] s.heap := hP
  have mG : ∀ (i : Nat) {w : Cond}, gT12[i]? = some w → w ∈ wgX12_isOf := fun i w h => List.mem_cons_of_mem _ (List.mem_of_getElem? h)
  have hl : lv_has ls 2 [(0, .int p1), (1, .int p2)] := hl
  obtain ⟨R, hRe⟩ : ∃ R : (Int32), R = m_Model_isOf p1 p2 := ⟨_, rfl⟩
  have hR : uy_Q R (fun z : (Int32) => z) (m_Model_isOf p1 p2) := hRe
  delta m_Model_isOf at hR
  refine lv_iload_n hx hb dX12_isOf_0 rfl (lv_at hl 0 rfl) ?_
  refine lv_iload_n hx hb dX12_isOf_1 rfl (lv_at hl 1 rfl) ?_
  refine lv_ishr hx hb dX12_isOf_2 ?_
  refine lv_topi (fun x1 ex1 => ?_)
  replace hR := uy_Ls ex1 hR
  refine lv_iconst (v := 1) hx hb dX12_isOf_3 (by decide) ?_
  refine lv_iand hx hb dX12_isOf_4 ?_
  refine lv_topi (fun x2 ex2 => ?_)
  replace hR := uy_Ls ex2 hR
  have i_x2 : iv x2 0 1 := iv_and ex2 (iv_lit (1 : Int32) (by decide) : iv (1 : Int32) 1 1) (by decide)
  refine lv_iconst (v := 1) hx hb dX12_isOf_5 (by decide) ?_
  refine lv_icmp_ne (tgt := 13) hx hb dX12_isOf_6 (by decide) (fun c3 => ?_) (fun c3 => ?_)
  ·
    replace hR := uy_Qn c3 hR
    have j4 : iv x2 0 0 := iv_neH c3 i_x2 rfl (by decide)
    refine lv_iconst (v := 0) hx hb dX12_isOf_13 (by decide) ?_
    exact hE _ _ _ (iv_lit (0 : Int32) (by decide) : iv (0 : Int32) 0 1) ⟨(iv_lit (0 : Int32) (by decide) : iv (0 : Int32) 0 1), ((uy_Q0 hR).symm.trans hRe)⟩ dX12_isOf_14
  ·
    replace hR := uy_Qp c3 hR
    have j5 : iv x2 1 1 := by rw [c3]; exact (iv_lit (1 : Int32) (by decide) : iv (1 : Int32) 1 1)
    refine lv_iconst (v := 1) hx hb dX12_isOf_9 (by decide) ?_
    refine lv_goto (tgt := 14) hx hb dX12_isOf_10 (by decide) ?_
    exact hE _ _ _ (iv_lit (1 : Int32) (by decide) : iv (1 : Int32) 0 1) ⟨(iv_lit (1 : Int32) (by decide) : iv (1 : Int32) 0 1), ((uy_Q0 hR).symm.trans hRe)⟩ dX12_isOf_14
abbrev rm_Model_reckon : Room := { frames := 0, cells := 0, slots := 0, locals := 0 }
abbrev wgX12_reckon : List Cond := .code yX12_reckon cX12_reckon 3 (some .int) :: gT12
set_option maxHeartbeats 4000000 in
set_option maxRecDepth 100000 in
theorem c_Model_reckon (l : Launch) (D : va_G) (ct : Nat → ClassId) (p1 p2 p3 : Int32) : cP l yX12_reckon wgX12_reckon rm_Model_reckon D ct [] [.int p1, .int p2, .int p3] (fun r : Int32 => r = m_Model_reckon p1 p2 p3) := by
  refine cP_of (cc := cX12_reckon) (maxL := 3) (by decide) rfl (Nat.le_of_ble_eq_true rfl) ?_
  intro p e s m args below meth c Q hx hb hml hts hown hK hP hE ls hl
  have hP : va_P D vwCl [] s.heap := hP
  have mG : ∀ (i : Nat) {w : Cond}, gT12[i]? = some w → w ∈ wgX12_reckon := fun i w h => List.mem_cons_of_mem _ (List.mem_of_getElem? h)
  have hl : lv_has ls 3 [(0, .int p1), (1, .int p2), (2, .int p3)] := hl
  obtain ⟨R, hRe⟩ : ∃ R : (Int32), R = m_Model_reckon p1 p2 p3 := ⟨_, rfl⟩
  have hR : uy_Q R (fun z : (Int32) => z) (m_Model_reckon p1 p2 p3) := hRe
  have K112 : ∀  (ls : Array Slot), uy_Q R (fun z : (Int32) => z) (m_Model_reckon_k112 p1 p2 p3 ) → lv_has ls 3 [] → W p l e rm_Model_reckon s m args below meth c s.heap [] 0 0 Q (F0 m 112 ls []) := by
    intro ls hR hl
    delta m_Model_reckon_k112 at hR
    refine lv_iconst (v := 1) hx hb dX12_reckon_112 (by decide) ?_
    refine lv_goto (tgt := 117) hx hb dX12_reckon_113 (by decide) ?_
    exact hE _ _ _ ((uy_Q0 hR).symm.trans hRe) dX12_reckon_117
  delta m_Model_reckon at hR
  refine lv_iload_n hx hb dX12_reckon_0 rfl (lv_at hl 0 rfl) ?_
  by_cases c1 : p1 = (-26 : Int32)
  ·
    have t2 : p1.toInt = (-26) := by rw [c1]; rfl
    refine lv_tableIn (tgt := 90) (off := 89) hx hb dX12_reckon_1 (by rw [t2]; decide) (by rw [t2]; decide) (by rw [t2]; rfl) (by decide) ?_
    have j3 : iv p1 (-26) (-26) := by rw [c1]; exact (iv_lit (-26 : Int32) (by decide))
    replace hR := uy_Qp c1 hR
    refine lv_iload_n hx hb dX12_reckon_90 rfl (lv_at hl 1 rfl) ?_
    refine lv_if_eq (tgt := 102) hx hb dX12_reckon_91 (by decide) (fun c4 => ?_) (fun c4 => ?_)
    ·
      replace hR := uy_Qp c4 hR
      have j5 : iv p2 0 0 := by rw [c4]; exact (iv_lit (0 : Int32) (by decide) : iv (0 : Int32) 0 0)
      refine lv_iconst (v := 0) hx hb dX12_reckon_102 (by decide) ?_
      exact hE _ _ _ ((uy_Q0 hR).symm.trans hRe) dX12_reckon_103
    ·
      replace hR := uy_Qn c4 hR
      refine lv_iload_n hx hb dX12_reckon_94 rfl (lv_at hl 2 rfl) ?_
      refine lv_if_eq (tgt := 102) hx hb dX12_reckon_95 (by decide) (fun c6 => ?_) (fun c6 => ?_)
      ·
        replace hR := uy_Qp c6 hR
        have j7 : iv p3 0 0 := by rw [c6]; exact (iv_lit (0 : Int32) (by decide) : iv (0 : Int32) 0 0)
        refine lv_iconst (v := 0) hx hb dX12_reckon_102 (by decide) ?_
        exact hE _ _ _ ((uy_Q0 hR).symm.trans hRe) dX12_reckon_103
      ·
        replace hR := uy_Qn c6 hR
        refine lv_iconst (v := 1) hx hb dX12_reckon_98 (by decide) ?_
        refine lv_goto (tgt := 103) hx hb dX12_reckon_99 (by decide) ?_
        exact hE _ _ _ ((uy_Q0 hR).symm.trans hRe) dX12_reckon_103
  replace hR := uy_Qn c1 hR
  by_cases c8 : p1 = (-25 : Int32)
  ·
    have t9 : p1.toInt = (-25) := by rw [c8]; rfl
    refine lv_tableIn (tgt := 79) (off := 78) hx hb dX12_reckon_1 (by rw [t9]; decide) (by rw [t9]; decide) (by rw [t9]; rfl) (by decide) ?_
    have j10 : iv p1 (-25) (-25) := by rw [c8]; exact (iv_lit (-25 : Int32) (by decide))
    replace hR := uy_Qp c8 hR
    refine lv_iload_n hx hb dX12_reckon_79 rfl (lv_at hl 1 rfl) ?_
    refine lv_iload_n hx hb dX12_reckon_80 rfl (lv_at hl 2 rfl) ?_
    refine lv_icmp_ne (tgt := 88) hx hb dX12_reckon_81 (by decide) (fun c11 => ?_) (fun c11 => ?_)
    ·
      replace hR := uy_Qn c11 hR
      refine lv_iconst (v := 0) hx hb dX12_reckon_88 (by decide) ?_
      exact hE _ _ _ ((uy_Q0 hR).symm.trans hRe) dX12_reckon_89
    ·
      replace hR := uy_Qp c11 hR
      refine lv_iconst (v := 1) hx hb dX12_reckon_84 (by decide) ?_
      refine lv_goto (tgt := 89) hx hb dX12_reckon_85 (by decide) ?_
      exact hE _ _ _ ((uy_Q0 hR).symm.trans hRe) dX12_reckon_89
  replace hR := uy_Qn c8 hR
  by_cases c12 : p1 = (-24 : Int32)
  ·
    have t13 : p1.toInt = (-24) := by rw [c12]; rfl
    refine lv_tableIn (tgt := 68) (off := 67) hx hb dX12_reckon_1 (by rw [t13]; decide) (by rw [t13]; decide) (by rw [t13]; rfl) (by decide) ?_
    have j14 : iv p1 (-24) (-24) := by rw [c12]; exact (iv_lit (-24 : Int32) (by decide))
    replace hR := uy_Qp c12 hR
    refine lv_iload_n hx hb dX12_reckon_68 rfl (lv_at hl 1 rfl) ?_
    refine lv_iload_n hx hb dX12_reckon_69 rfl (lv_at hl 2 rfl) ?_
    refine lv_icmp_ge (tgt := 77) hx hb dX12_reckon_70 (by decide) (fun c15 => ?_) (fun c15 => ?_)
    ·
      replace hR := uy_Qp c15 hR
      refine lv_iconst (v := 0) hx hb dX12_reckon_77 (by decide) ?_
      exact hE _ _ _ ((uy_Q0 hR).symm.trans hRe) dX12_reckon_78
    ·
      replace hR := uy_Qn c15 hR
      have j16 : iv p2 (-2147483648) 2147483646 := iv_ltL (iv_nle c15) (iv_any p2) (iv_any p3) (by decide)
      have j17 : iv p3 (-2147483647) 2147483647 := iv_ltR (iv_nle c15) (iv_any p2) (iv_any p3) (by decide)
      refine lv_iconst (v := 1) hx hb dX12_reckon_73 (by decide) ?_
      refine lv_goto (tgt := 78) hx hb dX12_reckon_74 (by decide) ?_
      exact hE _ _ _ ((uy_Q0 hR).symm.trans hRe) dX12_reckon_78
  replace hR := uy_Qn c12 hR
  by_cases c18 : p1 = (-23 : Int32)
  ·
    have t19 : p1.toInt = (-23) := by rw [c18]; rfl
    refine lv_tableIn (tgt := 56) (off := 55) hx hb dX12_reckon_1 (by rw [t19]; decide) (by rw [t19]; decide) (by rw [t19]; rfl) (by decide) ?_
    have j20 : iv p1 (-23) (-23) := by rw [c18]; exact (iv_lit (-23 : Int32) (by decide))
    replace hR := uy_Qp c18 hR
    refine lv_iload_n hx hb dX12_reckon_56 rfl (lv_at hl 2 rfl) ?_
    refine lv_if_ne (tgt := 64) hx hb dX12_reckon_57 (by decide) (fun c21 => ?_) (fun c21 => ?_)
    ·
      replace hR := uy_Qn c21 hR
      refine lv_iload_n hx hb dX12_reckon_64 rfl (lv_at hl 1 rfl) ?_
      refine lv_iload_n hx hb dX12_reckon_65 rfl (lv_at hl 2 rfl) ?_
      refine lv_idiv hx hb dX12_reckon_66 c21 ?_
      refine lv_topi (fun x22 ex22 => ?_)
      replace hR := uy_Ls ex22 hR
      exact hE _ _ _ ((uy_Q0 hR).symm.trans hRe) dX12_reckon_67
    ·
      replace hR := uy_Qp c21 hR
      have j23 : iv p3 0 0 := by rw [c21]; exact (iv_lit (0 : Int32) (by decide) : iv (0 : Int32) 0 0)
      refine lv_iconst (v := 0) hx hb dX12_reckon_60 (by decide) ?_
      refine lv_goto (tgt := 67) hx hb dX12_reckon_61 (by decide) ?_
      exact hE _ _ _ ((uy_Q0 hR).symm.trans hRe) dX12_reckon_67
  replace hR := uy_Qn c18 hR
  by_cases c24 : p1 = (-22 : Int32)
  ·
    have t25 : p1.toInt = (-22) := by rw [c24]; rfl
    refine lv_tableIn (tgt := 52) (off := 51) hx hb dX12_reckon_1 (by rw [t25]; decide) (by rw [t25]; decide) (by rw [t25]; rfl) (by decide) ?_
    have j26 : iv p1 (-22) (-22) := by rw [c24]; exact (iv_lit (-22 : Int32) (by decide))
    replace hR := uy_Qp c24 hR
    refine lv_iload_n hx hb dX12_reckon_52 rfl (lv_at hl 1 rfl) ?_
    refine lv_iload_n hx hb dX12_reckon_53 rfl (lv_at hl 2 rfl) ?_
    refine lv_imul hx hb dX12_reckon_54 ?_
    refine lv_topi (fun x27 ex27 => ?_)
    replace hR := uy_Ls ex27 hR
    exact hE _ _ _ ((uy_Q0 hR).symm.trans hRe) dX12_reckon_55
  replace hR := uy_Qn c24 hR
  by_cases c28 : p1 = (-21 : Int32)
  ·
    have t29 : p1.toInt = (-21) := by rw [c28]; rfl
    refine lv_tableIn (tgt := 48) (off := 47) hx hb dX12_reckon_1 (by rw [t29]; decide) (by rw [t29]; decide) (by rw [t29]; rfl) (by decide) ?_
    have j30 : iv p1 (-21) (-21) := by rw [c28]; exact (iv_lit (-21 : Int32) (by decide))
    replace hR := uy_Qp c28 hR
    refine lv_iload_n hx hb dX12_reckon_48 rfl (lv_at hl 1 rfl) ?_
    refine lv_iload_n hx hb dX12_reckon_49 rfl (lv_at hl 2 rfl) ?_
    refine lv_isub hx hb dX12_reckon_50 ?_
    refine lv_topi (fun x31 ex31 => ?_)
    replace hR := uy_Ls ex31 hR
    exact hE _ _ _ ((uy_Q0 hR).symm.trans hRe) dX12_reckon_51
  replace hR := uy_Qn c28 hR
  by_cases c32 : p1 = (-20 : Int32)
  ·
    have t33 : p1.toInt = (-20) := by rw [c32]; rfl
    refine lv_tableIn (tgt := 44) (off := 43) hx hb dX12_reckon_1 (by rw [t33]; decide) (by rw [t33]; decide) (by rw [t33]; rfl) (by decide) ?_
    have j34 : iv p1 (-20) (-20) := by rw [c32]; exact (iv_lit (-20 : Int32) (by decide))
    replace hR := uy_Qp c32 hR
    refine lv_iload_n hx hb dX12_reckon_44 rfl (lv_at hl 1 rfl) ?_
    refine lv_iload_n hx hb dX12_reckon_45 rfl (lv_at hl 2 rfl) ?_
    refine lv_iadd hx hb dX12_reckon_46 ?_
    refine lv_topi (fun x35 ex35 => ?_)
    replace hR := uy_Ls ex35 hR
    exact hE _ _ _ ((uy_Q0 hR).symm.trans hRe) dX12_reckon_47
  replace hR := uy_Qn c32 hR
  refine lv_tableOut (tgt := 104) hx hb dX12_reckon_1 (by have := ((iv_any p1)).1; have := ((iv_any p1)).2; have := ne_i c1; have : (-26 : Int32).toInt = -26 := rfl; have := ne_i c8; have : (-25 : Int32).toInt = -25 := rfl; have := ne_i c12; have : (-24 : Int32).toInt = -24 := rfl; have := ne_i c18; have : (-23 : Int32).toInt = -23 := rfl; have := ne_i c24; have : (-22 : Int32).toInt = -22 := rfl; have := ne_i c28; have : (-21 : Int32).toInt = -21 := rfl; have := ne_i c32; have : (-20 : Int32).toInt = -20 := rfl; omega) (by decide) ?_
  refine lv_iload_n hx hb dX12_reckon_104 rfl (lv_at hl 1 rfl) ?_
  refine lv_if_ne (tgt := 112) hx hb dX12_reckon_105 (by decide) (fun c36 => ?_) (fun c36 => ?_)
  ·
    replace hR := uy_Qn c36 hR
    exact K112 ls hR (lv_sub hl [] rfl)
  ·
    replace hR := uy_Qp c36 hR
    have j37 : iv p2 0 0 := by rw [c36]; exact (iv_lit (0 : Int32) (by decide) : iv (0 : Int32) 0 0)
    refine lv_iload_n hx hb dX12_reckon_108 rfl (lv_at hl 2 rfl) ?_
    refine lv_if_eq (tgt := 116) hx hb dX12_reckon_109 (by decide) (fun c38 => ?_) (fun c38 => ?_)
    ·
      replace hR := uy_Qp c38 hR
      have j39 : iv p3 0 0 := by rw [c38]; exact (iv_lit (0 : Int32) (by decide) : iv (0 : Int32) 0 0)
      refine lv_iconst (v := 0) hx hb dX12_reckon_116 (by decide) ?_
      exact hE _ _ _ ((uy_Q0 hR).symm.trans hRe) dX12_reckon_117
    ·
      replace hR := uy_Qn c38 hR
      exact K112 ls hR (lv_sub hl [] rfl)
abbrev rm_Model_nearer : Room := { frames := 0, cells := 0, slots := 0, locals := 0 }
abbrev wgX12_nearer : List Cond := .code yX12_nearer cX12_nearer 2 (some .int) :: gT12
set_option maxHeartbeats 4000000 in
set_option maxRecDepth 100000 in
theorem c_Model_nearer (l : Launch) (D : va_G) (ct : Nat → ClassId) (p1 p2 : Int32) : cP l yX12_nearer wgX12_nearer rm_Model_nearer D ct [] [.int p1, .int p2] (fun r : Int32 => r = m_Model_nearer p1 p2) := by
  refine cP_of (cc := cX12_nearer) (maxL := 2) (by decide) rfl (Nat.le_of_ble_eq_true rfl) ?_
  intro p e s m args below meth c Q hx hb hml hts hown hK hP hE ls hl
  have hP : va_P D vwCl [] s.heap := hP
  have mG : ∀ (i : Nat) {w : Cond}, gT12[i]? = some w → w ∈ wgX12_nearer := fun i w h => List.mem_cons_of_mem _ (List.mem_of_getElem? h)
  have hl : lv_has ls 2 [(0, .int p1), (1, .int p2)] := hl
  obtain ⟨R, hRe⟩ : ∃ R : (Int32), R = m_Model_nearer p1 p2 := ⟨_, rfl⟩
  have hR : uy_Q R (fun z : (Int32) => z) (m_Model_nearer p1 p2) := hRe
  delta m_Model_nearer at hR
  refine lv_iload_n hx hb dX12_nearer_0 rfl (lv_at hl 0 rfl) ?_
  refine lv_iload_n hx hb dX12_nearer_1 rfl (lv_at hl 1 rfl) ?_
  refine lv_icmp_ge (tgt := 11) hx hb dX12_nearer_2 (by decide) (fun c1 => ?_) (fun c1 => ?_)
  ·
    replace hR := uy_Qp c1 hR
    refine lv_iload_n hx hb dX12_nearer_11 rfl (lv_at hl 0 rfl) ?_
    refine lv_iload_n hx hb dX12_nearer_12 rfl (lv_at hl 1 rfl) ?_
    refine lv_icmp_le (tgt := 22) hx hb dX12_nearer_13 (by decide) (fun c2 => ?_) (fun c2 => ?_)
    ·
      replace hR := uy_Qp c2 hR
      refine lv_iload_n hx hb dX12_nearer_22 rfl (lv_at hl 0 rfl) ?_
      exact hE _ _ _ ((uy_Q0 hR).symm.trans hRe) dX12_nearer_23
    ·
      replace hR := uy_Qn c2 hR
      have j3 : iv p2 (-2147483648) 2147483646 := iv_ltL (iv_nle c2) (iv_any p2) (iv_any p1) (by decide)
      have j4 : iv p1 (-2147483647) 2147483647 := iv_ltR (iv_nle c2) (iv_any p2) (iv_any p1) (by decide)
      refine lv_iload_n hx hb dX12_nearer_16 rfl (lv_at hl 0 rfl) ?_
      refine lv_iconst (v := 1) hx hb dX12_nearer_17 (by decide) ?_
      refine lv_isub hx hb dX12_nearer_18 ?_
      refine lv_topi (fun x5 ex5 => ?_)
      replace hR := uy_Ls ex5 hR
      have i_x5 : iv x5 (-2147483648) 2147483646 := iv_sub ex5 j4 (iv_lit (1 : Int32) (by decide) : iv (1 : Int32) 1 1) (by decide) (by decide) (by decide) (by decide)
      refine lv_goto (tgt := 23) hx hb dX12_nearer_19 (by decide) ?_
      exact hE _ _ _ ((uy_Q0 hR).symm.trans hRe) dX12_nearer_23
  ·
    replace hR := uy_Qn c1 hR
    have j6 : iv p1 (-2147483648) 2147483646 := iv_ltL (iv_nle c1) (iv_any p1) (iv_any p2) (by decide)
    have j7 : iv p2 (-2147483647) 2147483647 := iv_ltR (iv_nle c1) (iv_any p1) (iv_any p2) (by decide)
    refine lv_iload_n hx hb dX12_nearer_5 rfl (lv_at hl 0 rfl) ?_
    refine lv_iconst (v := 1) hx hb dX12_nearer_6 (by decide) ?_
    refine lv_iadd hx hb dX12_nearer_7 ?_
    refine lv_topi (fun x8 ex8 => ?_)
    replace hR := uy_Ls ex8 hR
    have i_x8 : iv x8 (-2147483647) 2147483647 := iv_add ex8 j6 (iv_lit (1 : Int32) (by decide) : iv (1 : Int32) 1 1) (by decide) (by decide) (by decide) (by decide)
    refine lv_goto (tgt := 23) hx hb dX12_nearer_8 (by decide) ?_
    exact hE _ _ _ ((uy_Q0 hR).symm.trans hRe) dX12_nearer_23
abbrev rm_Model_sitterOf : Room := { frames := 0, cells := 0, slots := 0, locals := 0 }
abbrev wgX12_sitterOf : List Cond := .code yX12_sitterOf cX12_sitterOf 3 (some .int) :: gT12
set_option maxHeartbeats 4000000 in
set_option maxRecDepth 100000 in
theorem c_Model_sitterOf (l : Launch) (D : va_G) (ct : Nat → ClassId) (q_this q_this_told q_this_seat q_this_sorts q_this_ofWears q_this_ofSits q_this_values q_this_jawTold q_this_browTold q_this_stoneTold q_this_orphan q_this_faceTold q_this_foreheadTold q_this_ageTold q_this_familyTold q_this_rains q_this_signsWears q_this_signsSits q_this_status q_this_tape q_this_jaw q_this_brow q_this_stone q_this_face q_this_forehead q_this_age q_this_family q_this_past q_this_asked q_this_stack q_this_rowThen q_this_leastBy q_this_seenWho q_this_seenIn q_this_seenJaw q_this_rowSeen q_this_fit q_this_seatThen q_this_gains q_this_imageRow q_this_pastThen q_this_seenWhoThen q_this_seenInThen q_this_seenJawThen q_this_statusThen : Nat) (x_this_code x_this_taped x_this_at x_this_size x_this_token x_this_number x_this_begins x_this_stops x_this_bad x_this_badPlace x_this_faultPlace x_this_ofSitting x_this_yearNow x_this_acts x_this_seen x_this_satDown x_this_fitMany x_this_seedNow x_this_hasImage x_this_actsThen x_this_seenThen : Int32) (f_this_told f_this_seat : Nat → Int32) (p1 : Int32) (i_x_this_taped : iv x_this_taped 0 700) (i_x_this_ofSitting : iv x_this_ofSitting 0 1) (i_x_this_yearNow : iv x_this_yearNow 0 5000) (i_x_this_acts : iv x_this_acts 0 40) (i_x_this_seen : iv x_this_seen 0 8) (i_x_this_fitMany : iv x_this_fitMany 0 800) (i_x_this_hasImage : iv x_this_hasImage 0 1) (i_x_this_actsThen : iv x_this_actsThen 0 40) (i_x_this_seenThen : iv x_this_seenThen 0 8) (a_f_this_seat : av f_this_seat 8 (-1) 7) (tv : tv f_this_told) : cP l yX12_sitterOf wgX12_sitterOf rm_Model_sitterOf D ct [(q_this, .inr (11, [.ref q_this_sorts, .ref q_this_ofWears, .ref q_this_ofSits, .ref q_this_values, .int x_this_code, .ref q_this_told, .ref q_this_jawTold, .ref q_this_browTold, .ref q_this_stoneTold, .ref q_this_orphan, .ref q_this_faceTold, .ref q_this_foreheadTold, .ref q_this_ageTold, .ref q_this_familyTold, .ref q_this_rains, .ref q_this_signsWears, .ref q_this_signsSits, .ref q_this_status, .ref q_this_tape, .int x_this_taped, .int x_this_at, .int x_this_size, .int x_this_token, .int x_this_number, .int x_this_begins, .int x_this_stops, .int x_this_bad, .int x_this_badPlace, .int x_this_faultPlace, .int x_this_ofSitting, .ref q_this_jaw, .ref q_this_brow, .ref q_this_stone, .ref q_this_face, .ref q_this_forehead, .ref q_this_age, .ref q_this_family, .ref q_this_seat, .ref q_this_past, .int x_this_yearNow, .int x_this_acts, .int x_this_seen, .ref q_this_asked, .ref q_this_stack, .int x_this_satDown, .ref q_this_rowThen, .ref q_this_leastBy, .ref q_this_seenWho, .ref q_this_seenIn, .ref q_this_seenJaw, .ref q_this_rowSeen, .ref q_this_fit, .ref q_this_seatThen, .int x_this_fitMany, .ref q_this_gains, .int x_this_seedNow, .int x_this_hasImage, .int x_this_actsThen, .int x_this_seenThen, .ref q_this_imageRow, .ref q_this_pastThen, .ref q_this_seenWhoThen, .ref q_this_seenInThen, .ref q_this_seenJawThen, .ref q_this_statusThen])), (q_this_told, .inl (ct 0, 12, .inl f_this_told)), (q_this_seat, .inl (ct 0, 8, .inl f_this_seat))] [.ref q_this, .int p1] (fun r : Int32 => iv r (-1) 7 ∧ r = m_Model_sitterOf f_this_told f_this_seat p1) := by
  refine cP_of (cc := cX12_sitterOf) (maxL := 3) (by decide) rfl (Nat.le_of_ble_eq_true rfl) ?_
  intro p e s m args below meth c Q hx hb hml hts hown hK hP hE ls hl
  have hP : va_P D vwCl [(q_this, .inr (11, [.ref q_this_sorts, .ref q_this_ofWears, .ref q_this_ofSits, .ref q_this_values, .int x_this_code, .ref q_this_told, .ref q_this_jawTold, .ref q_this_browTold, .ref q_this_stoneTold, .ref q_this_orphan, .ref q_this_faceTold, .ref q_this_foreheadTold, .ref q_this_ageTold, .ref q_this_familyTold, .ref q_this_rains, .ref q_this_signsWears, .ref q_this_signsSits, .ref q_this_status, .ref q_this_tape, .int x_this_taped, .int x_this_at, .int x_this_size, .int x_this_token, .int x_this_number, .int x_this_begins, .int x_this_stops, .int x_this_bad, .int x_this_badPlace, .int x_this_faultPlace, .int x_this_ofSitting, .ref q_this_jaw, .ref q_this_brow, .ref q_this_stone, .ref q_this_face, .ref q_this_forehead, .ref q_this_age, .ref q_this_family, .ref q_this_seat, .ref q_this_past, .int x_this_yearNow, .int x_this_acts, .int x_this_seen, .ref q_this_asked, .ref q_this_stack, .int x_this_satDown, .ref q_this_rowThen, .ref q_this_leastBy, .ref q_this_seenWho, .ref q_this_seenIn, .ref q_this_seenJaw, .ref q_this_rowSeen, .ref q_this_fit, .ref q_this_seatThen, .int x_this_fitMany, .ref q_this_gains, .int x_this_seedNow, .int x_this_hasImage, .int x_this_actsThen, .int x_this_seenThen, .ref q_this_imageRow, .ref q_this_pastThen, .ref q_this_seenWhoThen, .ref q_this_seenInThen, .ref q_this_seenJawThen, .ref q_this_statusThen])), (q_this_told, .inl (ct 0, 12, .inl f_this_told)), (q_this_seat, .inl (ct 0, 8, .inl f_this_seat))] s.heap := hP
  have mG : ∀ (i : Nat) {w : Cond}, gT12[i]? = some w → w ∈ wgX12_sitterOf := fun i w h => List.mem_cons_of_mem _ (List.mem_of_getElem? h)
  have hl : lv_has ls 3 [(0, .ref q_this), (1, .int p1)] := hl
  obtain ⟨R, hRe⟩ : ∃ R : (Int32), R = m_Model_sitterOf f_this_told f_this_seat p1 := ⟨_, rfl⟩
  have hR : uy_Q R (fun z : (Int32) => z) (m_Model_sitterOf f_this_told f_this_seat p1) := hRe
  have hin_Model : ∀ w ∈ u_ws RX12 TX12 65, w ∈ wgX12_sitterOf := fun w h => List.mem_cons_of_mem _ (ingT12_X12 w h)
  have K2 : ∀ (n2 : Nat) (v2c2 : Int32) (ls : Array Slot), iv v2c2 0 8 → (8 - v2c2.toInt).toNat < n2 → uy_Q R (fun z : (Int32) => z) (m_Model_sitterOf_k2 f_this_told f_this_seat p1 (v2c2)) → lv_has ls 3 [(0, .ref q_this), (1, .int p1), (2, .int v2c2)] → W p l e rm_Model_sitterOf s m args below meth c s.heap [] 0 0 Q (F0 m 2 ls []) := by
    intro n2
    induction n2 with
    | zero => intro v2c2 ls i_v2c2 hm2 hR hl; exact absurd hm2 (Nat.not_lt_zero _)
    | succ n2 ih2 =>
      intro v2c2 ls i_v2c2 hm2 hR hl
      replace hR : uy_Q R (uy_E (fun z : (Int32) => z) (m_Model_sitterOf_k2 f_this_told f_this_seat p1)) (m_Model_sitterOf_b2 f_this_told f_this_seat p1 v2c2) := uy_whs hR
      delta m_Model_sitterOf_b2 at hR
      refine lv_iload_n hx hb dX12_sitterOf_2 rfl (lv_at hl 2 rfl) ?_
      refine lv_aload_n hx hb dX12_sitterOf_3 rfl (lv_at hl 0 rfl) ?_
      refine va_get (D := D) (ci := 11) (v := .ref q_this_told) (C := RX12) (T := TX12) (N := 65) hx hb hts hin_Model hown hK hP 0 rfl rfl 5 (by decide) (hts (.fieldLink RX12 42 "GutterSeatsModel" "told" "[I") (List.mem_cons_of_mem _ (gm12 0 10 (by first | rfl | decide +kernel)))) (fun _ h9 => h9) rfl dX12_sitterOf_4 ?_
      refine lv_iconst (v := 1) hx hb dX12_sitterOf_7 (by decide) ?_
      have n1 : vp_in (1 : Int32) 12 := iv_in (iv_lit (1 : Int32) (by decide) : iv (1 : Int32) 1 1) (by decide) (by decide)
      refine va_iald hx hb hK hP 1 0 rfl rfl n1 dX12_sitterOf_8 ?_
      refine lv_topi (fun x2 ex2 => ?_)
      replace hR := uy_Ls ex2 hR
      have i_x2 : iv x2 0 8 := by rw [ex2]; exact tv.2.1
      refine lv_icmp_ge (tgt := 30) hx hb dX12_sitterOf_9 (by decide) (fun c3 => ?_) (fun c3 => ?_)
      ·
        replace hR := uy_Qp c3 hR
        refine lv_iconst (v := -1) hx hb dX12_sitterOf_30 (by decide) ?_
        exact hE _ _ _ ⟨(iv_lit (-1 : Int32) (by decide) : iv (-1 : Int32) (-1) 7), ((uy_Q0 (uy_Qr hR)).symm.trans hRe)⟩ dX12_sitterOf_31
      ·
        replace hR := uy_Qn c3 hR
        have j4 : iv v2c2 0 7 := iv_ltL (iv_nle c3) i_v2c2 i_x2 (by decide)
        have j5 : iv x2 1 8 := iv_ltR (iv_nle c3) i_v2c2 i_x2 (by decide)
        refine lv_aload_n hx hb dX12_sitterOf_12 rfl (lv_at hl 0 rfl) ?_
        refine va_get (D := D) (ci := 11) (v := .ref q_this_seat) (C := RX12) (T := TX12) (N := 65) hx hb hts hin_Model hown hK hP 0 rfl rfl 37 (by decide) (hts (.fieldLink RX12 106 "GutterSeatsModel" "seat" "[I") (List.mem_cons_of_mem _ (gm12 0 32 (by first | rfl | decide +kernel)))) (fun _ h9 => h9) rfl dX12_sitterOf_13 ?_
        refine lv_iload_n hx hb dX12_sitterOf_16 rfl (lv_at hl 2 rfl) ?_
        have n6 : vp_in v2c2 8 := iv_in j4 (by decide) (by decide)
        refine va_iald hx hb hK hP 2 0 rfl rfl n6 dX12_sitterOf_17 ?_
        refine lv_topi (fun x7 ex7 => ?_)
        replace hR := uy_Ls ex7 hR
        have i_x7 : iv x7 (-1) 7 := by rw [ex7]; exact av_get a_f_this_seat n6
        refine lv_iload_n hx hb dX12_sitterOf_18 rfl (lv_at hl 1 rfl) ?_
        refine lv_icmp_ne (tgt := 24) hx hb dX12_sitterOf_19 (by decide) (fun c8 => ?_) (fun c8 => ?_)
        ·
          replace hR := uy_Qn c8 hR
          obtain ⟨x9, ex9⟩ : ∃ z : Int32, z = v2c2 + (1 : Int32) := ⟨_, rfl⟩
          refine lv_iinc (v := x9) (lv' := [(2, .int x9), (0, .ref q_this), (1, .int p1)]) hx hb dX12_sitterOf_24 hl (k := 2) rfl (by rw [ex9]; rfl) (by decide) rfl (fun ls hl => ?_)
          replace hR := uy_Ls ex9 hR
          have i_x9 : iv x9 1 8 := iv_add ex9 j4 (iv_lit (1 : Int32) (by decide) : iv (1 : Int32) 1 1) (by decide) (by decide) (by decide) (by decide)
          refine lv_goto (tgt := 2) hx hb dX12_sitterOf_27 (by decide) ?_
          exact ih2 x9 ls (iv_w i_x9 (by decide) (by decide)) (ms_up ex9 j4 (by decide) (by decide) hm2) (uy_Ql hR) (lv_sub hl [1, 2, 0] rfl)
        ·
          replace hR := uy_Qp c8 hR
          have j10 : iv p1 (-1) 7 := by rw [← c8]; exact i_x7
          refine lv_iload_n hx hb dX12_sitterOf_22 rfl (lv_at hl 2 rfl) ?_
          exact hE _ _ _ ⟨(iv_w j4 (by decide) (by decide)), ((uy_Q0 (uy_Qr hR)).symm.trans hRe)⟩ dX12_sitterOf_23
  delta m_Model_sitterOf at hR
  refine lv_iconst (v := 0) hx hb dX12_sitterOf_0 (by decide) ?_
  refine lv_istore_n (lv' := [(2, .int (0 : Int32)), (0, .ref q_this), (1, .int p1)]) hx hb dX12_sitterOf_1 rfl hl (by decide) rfl (fun ls hl => ?_)
  exact K2 _ (0 : Int32) ls (iv_lit (0 : Int32) (by decide) : iv (0 : Int32) 0 8) (Nat.lt_succ_self _) hR (lv_sub hl [1, 2, 0] rfl)
abbrev rm_Model_unlikeOf : Room := { frames := 1, cells := 0, slots := 0, locals := 21 }
abbrev wgX12_unlikeOf : List Cond := .code yX12_unlikeOf cX12_unlikeOf 3 (some .int) :: gT12
set_option maxHeartbeats 4000000 in
set_option maxRecDepth 100000 in
theorem c_Model_unlikeOf (l : Launch) (D : va_G) (ct : Nat → ClassId) (q_this q_this_jaw q_this_brow q_this_face q_this_forehead q_this_sorts q_this_ofWears q_this_ofSits q_this_values q_this_told q_this_jawTold q_this_browTold q_this_stoneTold q_this_orphan q_this_faceTold q_this_foreheadTold q_this_ageTold q_this_familyTold q_this_rains q_this_signsWears q_this_signsSits q_this_status q_this_tape q_this_stone q_this_age q_this_family q_this_seat q_this_past q_this_asked q_this_stack q_this_rowThen q_this_leastBy q_this_seenWho q_this_seenIn q_this_seenJaw q_this_rowSeen q_this_fit q_this_seatThen q_this_gains q_this_imageRow q_this_pastThen q_this_seenWhoThen q_this_seenInThen q_this_seenJawThen q_this_statusThen : Nat) (x_this_code x_this_taped x_this_at x_this_size x_this_token x_this_number x_this_begins x_this_stops x_this_bad x_this_badPlace x_this_faultPlace x_this_ofSitting x_this_yearNow x_this_acts x_this_seen x_this_satDown x_this_fitMany x_this_seedNow x_this_hasImage x_this_actsThen x_this_seenThen : Int32) (f_this_jaw f_this_brow f_this_face f_this_forehead : Nat → Int32) (p1 p2 : Int32) (i_x_this_taped : iv x_this_taped 0 700) (i_x_this_ofSitting : iv x_this_ofSitting 0 1) (i_x_this_yearNow : iv x_this_yearNow 0 5000) (i_x_this_acts : iv x_this_acts 0 40) (i_x_this_seen : iv x_this_seen 0 8) (i_x_this_fitMany : iv x_this_fitMany 0 800) (i_x_this_hasImage : iv x_this_hasImage 0 1) (i_x_this_actsThen : iv x_this_actsThen 0 40) (i_x_this_seenThen : iv x_this_seenThen 0 8) (i_p1 : iv p1 0 7) (i_p2 : iv p2 0 7) : cP l yX12_unlikeOf wgX12_unlikeOf rm_Model_unlikeOf D ct [(q_this, .inr (11, [.ref q_this_sorts, .ref q_this_ofWears, .ref q_this_ofSits, .ref q_this_values, .int x_this_code, .ref q_this_told, .ref q_this_jawTold, .ref q_this_browTold, .ref q_this_stoneTold, .ref q_this_orphan, .ref q_this_faceTold, .ref q_this_foreheadTold, .ref q_this_ageTold, .ref q_this_familyTold, .ref q_this_rains, .ref q_this_signsWears, .ref q_this_signsSits, .ref q_this_status, .ref q_this_tape, .int x_this_taped, .int x_this_at, .int x_this_size, .int x_this_token, .int x_this_number, .int x_this_begins, .int x_this_stops, .int x_this_bad, .int x_this_badPlace, .int x_this_faultPlace, .int x_this_ofSitting, .ref q_this_jaw, .ref q_this_brow, .ref q_this_stone, .ref q_this_face, .ref q_this_forehead, .ref q_this_age, .ref q_this_family, .ref q_this_seat, .ref q_this_past, .int x_this_yearNow, .int x_this_acts, .int x_this_seen, .ref q_this_asked, .ref q_this_stack, .int x_this_satDown, .ref q_this_rowThen, .ref q_this_leastBy, .ref q_this_seenWho, .ref q_this_seenIn, .ref q_this_seenJaw, .ref q_this_rowSeen, .ref q_this_fit, .ref q_this_seatThen, .int x_this_fitMany, .ref q_this_gains, .int x_this_seedNow, .int x_this_hasImage, .int x_this_actsThen, .int x_this_seenThen, .ref q_this_imageRow, .ref q_this_pastThen, .ref q_this_seenWhoThen, .ref q_this_seenInThen, .ref q_this_seenJawThen, .ref q_this_statusThen])), (q_this_jaw, .inl (ct 0, 8, .inl f_this_jaw)), (q_this_brow, .inl (ct 0, 8, .inl f_this_brow)), (q_this_face, .inl (ct 0, 8, .inl f_this_face)), (q_this_forehead, .inl (ct 0, 8, .inl f_this_forehead))] [.ref q_this, .int p1, .int p2] (fun r : Int32 => r = m_Model_unlikeOf f_this_jaw f_this_brow f_this_face f_this_forehead p1 p2) := by
  refine cP_of (cc := cX12_unlikeOf) (maxL := 3) (by decide) rfl (Nat.le_of_ble_eq_true rfl) ?_
  intro p e s m args below meth c Q hx hb hml hts hown hK hP hE ls hl
  have hP : va_P D vwCl [(q_this, .inr (11, [.ref q_this_sorts, .ref q_this_ofWears, .ref q_this_ofSits, .ref q_this_values, .int x_this_code, .ref q_this_told, .ref q_this_jawTold, .ref q_this_browTold, .ref q_this_stoneTold, .ref q_this_orphan, .ref q_this_faceTold, .ref q_this_foreheadTold, .ref q_this_ageTold, .ref q_this_familyTold, .ref q_this_rains, .ref q_this_signsWears, .ref q_this_signsSits, .ref q_this_status, .ref q_this_tape, .int x_this_taped, .int x_this_at, .int x_this_size, .int x_this_token, .int x_this_number, .int x_this_begins, .int x_this_stops, .int x_this_bad, .int x_this_badPlace, .int x_this_faultPlace, .int x_this_ofSitting, .ref q_this_jaw, .ref q_this_brow, .ref q_this_stone, .ref q_this_face, .ref q_this_forehead, .ref q_this_age, .ref q_this_family, .ref q_this_seat, .ref q_this_past, .int x_this_yearNow, .int x_this_acts, .int x_this_seen, .ref q_this_asked, .ref q_this_stack, .int x_this_satDown, .ref q_this_rowThen, .ref q_this_leastBy, .ref q_this_seenWho, .ref q_this_seenIn, .ref q_this_seenJaw, .ref q_this_rowSeen, .ref q_this_fit, .ref q_this_seatThen, .int x_this_fitMany, .ref q_this_gains, .int x_this_seedNow, .int x_this_hasImage, .int x_this_actsThen, .int x_this_seenThen, .ref q_this_imageRow, .ref q_this_pastThen, .ref q_this_seenWhoThen, .ref q_this_seenInThen, .ref q_this_seenJawThen, .ref q_this_statusThen])), (q_this_jaw, .inl (ct 0, 8, .inl f_this_jaw)), (q_this_brow, .inl (ct 0, 8, .inl f_this_brow)), (q_this_face, .inl (ct 0, 8, .inl f_this_face)), (q_this_forehead, .inl (ct 0, 8, .inl f_this_forehead))] s.heap := hP
  have mG : ∀ (i : Nat) {w : Cond}, gT12[i]? = some w → w ∈ wgX12_unlikeOf := fun i w h => List.mem_cons_of_mem _ (List.mem_of_getElem? h)
  have hl : lv_has ls 3 [(0, .ref q_this), (1, .int p1), (2, .int p2)] := hl
  obtain ⟨R, hRe⟩ : ∃ R : (Int32), R = m_Model_unlikeOf f_this_jaw f_this_brow f_this_face f_this_forehead p1 p2 := ⟨_, rfl⟩
  have hR : uy_Q R (fun z : (Int32) => z) (m_Model_unlikeOf f_this_jaw f_this_brow f_this_face f_this_forehead p1 p2) := hRe
  have hin_Model : ∀ w ∈ u_ws RX12 TX12 65, w ∈ wgX12_unlikeOf := fun w h => List.mem_cons_of_mem _ (ingT12_X12 w h)
  delta m_Model_unlikeOf at hR
  refine lv_aload_n hx hb dX12_unlikeOf_0 rfl (lv_at hl 0 rfl) ?_
  refine va_get (D := D) (ci := 11) (v := .ref q_this_face) (C := RX12) (T := TX12) (N := 65) hx hb hts hin_Model hown hK hP 0 rfl rfl 33 (by decide) (hts (.fieldLink RX12 96 "GutterSeatsModel" "face" "[I") (List.mem_cons_of_mem _ (gm12 0 28 (by first | rfl | decide +kernel)))) (fun _ h9 => h9) rfl dX12_unlikeOf_1 ?_
  refine lv_iload_n hx hb dX12_unlikeOf_4 rfl (lv_at hl 1 rfl) ?_
  have n1 : vp_in p1 8 := iv_in i_p1 (by decide) (by decide)
  refine va_iald hx hb hK hP 3 0 rfl rfl n1 dX12_unlikeOf_5 ?_
  refine lv_topi (fun x2 ex2 => ?_)
  replace hR := uy_Ls ex2 hR
  refine lv_aload_n hx hb dX12_unlikeOf_6 rfl (lv_at hl 0 rfl) ?_
  refine va_get (D := D) (ci := 11) (v := .ref q_this_jaw) (C := RX12) (T := TX12) (N := 65) hx hb hts hin_Model hown hK hP 0 rfl rfl 30 (by decide) (hts (.fieldLink RX12 88 "GutterSeatsModel" "jaw" "[I") (List.mem_cons_of_mem _ (gm12 0 25 (by first | rfl | decide +kernel)))) (fun _ h9 => h9) rfl dX12_unlikeOf_7 ?_
  refine lv_iload_n hx hb dX12_unlikeOf_10 rfl (lv_at hl 2 rfl) ?_
  have n3 : vp_in p2 8 := iv_in i_p2 (by decide) (by decide)
  refine va_iald hx hb hK hP 1 0 rfl rfl n3 dX12_unlikeOf_11 ?_
  refine lv_topi (fun x4 ex4 => ?_)
  replace hR := uy_Ls ex4 hR
  refine lv_isub hx hb dX12_unlikeOf_12 ?_
  refine lv_topi (fun x5 ex5 => ?_)
  replace hR := uy_Ls ex5 hR
  refine va_mabs hx hb (by rw [hml]; exact hl.1.symm) hown (hts (.methodLink RX12 339 Lib.Math.abs.name) (List.mem_cons_of_mem _ (gm12 4 8 (by first | rfl | decide +kernel)))) (hts (.static Lib.Math.abs.name) (List.mem_cons_of_mem _ (gm12 4 9 (by first | rfl | decide +kernel)))) (hts (.initialized "java/lang/Math") (List.mem_cons_of_mem _ (gm12 1 17 (by first | rfl | decide +kernel)))) (hts (.code Lib.Math.abs.name Lib.Math.abs.code 1 (some .int)) (List.mem_cons_of_mem _ (gm12 4 10 (by first | rfl | decide +kernel)))) (Nat.le_of_ble_eq_true rfl) (Nat.le_of_ble_eq_true rfl) (Nat.le_of_ble_eq_true rfl) (Nat.le_of_ble_eq_true rfl) dX12_unlikeOf_13 ?_
  refine lv_topi (fun x6 ex6 => ?_)
  replace hR := uy_Ls ex6 hR
  refine lv_aload_n hx hb dX12_unlikeOf_16 rfl (lv_at hl 0 rfl) ?_
  refine va_get (D := D) (ci := 11) (v := .ref q_this_forehead) (C := RX12) (T := TX12) (N := 65) hx hb hts hin_Model hown hK hP 0 rfl rfl 34 (by decide) (hts (.fieldLink RX12 99 "GutterSeatsModel" "forehead" "[I") (List.mem_cons_of_mem _ (gm12 0 29 (by first | rfl | decide +kernel)))) (fun _ h9 => h9) rfl dX12_unlikeOf_17 ?_
  refine lv_iload_n hx hb dX12_unlikeOf_20 rfl (lv_at hl 1 rfl) ?_
  have n7 : vp_in p1 8 := iv_in i_p1 (by decide) (by decide)
  refine va_iald hx hb hK hP 4 0 rfl rfl n7 dX12_unlikeOf_21 ?_
  refine lv_topi (fun x8 ex8 => ?_)
  replace hR := uy_Ls ex8 hR
  refine lv_aload_n hx hb dX12_unlikeOf_22 rfl (lv_at hl 0 rfl) ?_
  refine va_get (D := D) (ci := 11) (v := .ref q_this_brow) (C := RX12) (T := TX12) (N := 65) hx hb hts hin_Model hown hK hP 0 rfl rfl 31 (by decide) (hts (.fieldLink RX12 91 "GutterSeatsModel" "brow" "[I") (List.mem_cons_of_mem _ (gm12 0 26 (by first | rfl | decide +kernel)))) (fun _ h9 => h9) rfl dX12_unlikeOf_23 ?_
  refine lv_iload_n hx hb dX12_unlikeOf_26 rfl (lv_at hl 2 rfl) ?_
  have n9 : vp_in p2 8 := iv_in i_p2 (by decide) (by decide)
  refine va_iald hx hb hK hP 2 0 rfl rfl n9 dX12_unlikeOf_27 ?_
  refine lv_topi (fun x10 ex10 => ?_)
  replace hR := uy_Ls ex10 hR
  refine lv_isub hx hb dX12_unlikeOf_28 ?_
  refine lv_topi (fun x11 ex11 => ?_)
  replace hR := uy_Ls ex11 hR
  refine va_mabs hx hb (by rw [hml]; exact hl.1.symm) hown (hts (.methodLink RX12 339 Lib.Math.abs.name) (List.mem_cons_of_mem _ (gm12 4 8 (by first | rfl | decide +kernel)))) (hts (.static Lib.Math.abs.name) (List.mem_cons_of_mem _ (gm12 4 9 (by first | rfl | decide +kernel)))) (hts (.initialized "java/lang/Math") (List.mem_cons_of_mem _ (gm12 1 17 (by first | rfl | decide +kernel)))) (hts (.code Lib.Math.abs.name Lib.Math.abs.code 1 (some .int)) (List.mem_cons_of_mem _ (gm12 4 10 (by first | rfl | decide +kernel)))) (Nat.le_of_ble_eq_true rfl) (Nat.le_of_ble_eq_true rfl) (Nat.le_of_ble_eq_true rfl) (Nat.le_of_ble_eq_true rfl) dX12_unlikeOf_29 ?_
  refine lv_topi (fun x12 ex12 => ?_)
  replace hR := uy_Ls ex12 hR
  refine lv_iadd hx hb dX12_unlikeOf_32 ?_
  refine lv_topi (fun x13 ex13 => ?_)
  replace hR := uy_Ls ex13 hR
  exact hE _ _ _ ((uy_Q0 hR).symm.trans hRe) dX12_unlikeOf_33
abbrev rm_Model_unlikePeople : Room := { frames := 1, cells := 0, slots := 0, locals := 21 }
abbrev wgX12_unlikePeople : List Cond := .code yX12_unlikePeople cX12_unlikePeople 3 (some .int) :: gT12
set_option maxHeartbeats 4000000 in
set_option maxRecDepth 100000 in
theorem c_Model_unlikePeople (l : Launch) (D : va_G) (ct : Nat → ClassId) (q_this q_this_face q_this_forehead q_this_sorts q_this_ofWears q_this_ofSits q_this_values q_this_told q_this_jawTold q_this_browTold q_this_stoneTold q_this_orphan q_this_faceTold q_this_foreheadTold q_this_ageTold q_this_familyTold q_this_rains q_this_signsWears q_this_signsSits q_this_status q_this_tape q_this_jaw q_this_brow q_this_stone q_this_age q_this_family q_this_seat q_this_past q_this_asked q_this_stack q_this_rowThen q_this_leastBy q_this_seenWho q_this_seenIn q_this_seenJaw q_this_rowSeen q_this_fit q_this_seatThen q_this_gains q_this_imageRow q_this_pastThen q_this_seenWhoThen q_this_seenInThen q_this_seenJawThen q_this_statusThen : Nat) (x_this_code x_this_taped x_this_at x_this_size x_this_token x_this_number x_this_begins x_this_stops x_this_bad x_this_badPlace x_this_faultPlace x_this_ofSitting x_this_yearNow x_this_acts x_this_seen x_this_satDown x_this_fitMany x_this_seedNow x_this_hasImage x_this_actsThen x_this_seenThen : Int32) (f_this_face f_this_forehead : Nat → Int32) (p1 p2 : Int32) (i_x_this_taped : iv x_this_taped 0 700) (i_x_this_ofSitting : iv x_this_ofSitting 0 1) (i_x_this_yearNow : iv x_this_yearNow 0 5000) (i_x_this_acts : iv x_this_acts 0 40) (i_x_this_seen : iv x_this_seen 0 8) (i_x_this_fitMany : iv x_this_fitMany 0 800) (i_x_this_hasImage : iv x_this_hasImage 0 1) (i_x_this_actsThen : iv x_this_actsThen 0 40) (i_x_this_seenThen : iv x_this_seenThen 0 8) (i_p1 : iv p1 0 7) (i_p2 : iv p2 0 7) : cP l yX12_unlikePeople wgX12_unlikePeople rm_Model_unlikePeople D ct [(q_this, .inr (11, [.ref q_this_sorts, .ref q_this_ofWears, .ref q_this_ofSits, .ref q_this_values, .int x_this_code, .ref q_this_told, .ref q_this_jawTold, .ref q_this_browTold, .ref q_this_stoneTold, .ref q_this_orphan, .ref q_this_faceTold, .ref q_this_foreheadTold, .ref q_this_ageTold, .ref q_this_familyTold, .ref q_this_rains, .ref q_this_signsWears, .ref q_this_signsSits, .ref q_this_status, .ref q_this_tape, .int x_this_taped, .int x_this_at, .int x_this_size, .int x_this_token, .int x_this_number, .int x_this_begins, .int x_this_stops, .int x_this_bad, .int x_this_badPlace, .int x_this_faultPlace, .int x_this_ofSitting, .ref q_this_jaw, .ref q_this_brow, .ref q_this_stone, .ref q_this_face, .ref q_this_forehead, .ref q_this_age, .ref q_this_family, .ref q_this_seat, .ref q_this_past, .int x_this_yearNow, .int x_this_acts, .int x_this_seen, .ref q_this_asked, .ref q_this_stack, .int x_this_satDown, .ref q_this_rowThen, .ref q_this_leastBy, .ref q_this_seenWho, .ref q_this_seenIn, .ref q_this_seenJaw, .ref q_this_rowSeen, .ref q_this_fit, .ref q_this_seatThen, .int x_this_fitMany, .ref q_this_gains, .int x_this_seedNow, .int x_this_hasImage, .int x_this_actsThen, .int x_this_seenThen, .ref q_this_imageRow, .ref q_this_pastThen, .ref q_this_seenWhoThen, .ref q_this_seenInThen, .ref q_this_seenJawThen, .ref q_this_statusThen])), (q_this_face, .inl (ct 0, 8, .inl f_this_face)), (q_this_forehead, .inl (ct 0, 8, .inl f_this_forehead))] [.ref q_this, .int p1, .int p2] (fun r : Int32 => r = m_Model_unlikePeople f_this_face f_this_forehead p1 p2) := by
  refine cP_of (cc := cX12_unlikePeople) (maxL := 3) (by decide) rfl (Nat.le_of_ble_eq_true rfl) ?_
  intro p e s m args below meth c Q hx hb hml hts hown hK hP hE ls hl
  have hP : va_P D vwCl [(q_this, .inr (11, [.ref q_this_sorts, .ref q_this_ofWears, .ref q_this_ofSits, .ref q_this_values, .int x_this_code, .ref q_this_told, .ref q_this_jawTold, .ref q_this_browTold, .ref q_this_stoneTold, .ref q_this_orphan, .ref q_this_faceTold, .ref q_this_foreheadTold, .ref q_this_ageTold, .ref q_this_familyTold, .ref q_this_rains, .ref q_this_signsWears, .ref q_this_signsSits, .ref q_this_status, .ref q_this_tape, .int x_this_taped, .int x_this_at, .int x_this_size, .int x_this_token, .int x_this_number, .int x_this_begins, .int x_this_stops, .int x_this_bad, .int x_this_badPlace, .int x_this_faultPlace, .int x_this_ofSitting, .ref q_this_jaw, .ref q_this_brow, .ref q_this_stone, .ref q_this_face, .ref q_this_forehead, .ref q_this_age, .ref q_this_family, .ref q_this_seat, .ref q_this_past, .int x_this_yearNow, .int x_this_acts, .int x_this_seen, .ref q_this_asked, .ref q_this_stack, .int x_this_satDown, .ref q_this_rowThen, .ref q_this_leastBy, .ref q_this_seenWho, .ref q_this_seenIn, .ref q_this_seenJaw, .ref q_this_rowSeen, .ref q_this_fit, .ref q_this_seatThen, .int x_this_fitMany, .ref q_this_gains, .int x_this_seedNow, .int x_this_hasImage, .int x_this_actsThen, .int x_this_seenThen, .ref q_this_imageRow, .ref q_this_pastThen, .ref q_this_seenWhoThen, .ref q_this_seenInThen, .ref q_this_seenJawThen, .ref q_this_statusThen])), (q_this_face, .inl (ct 0, 8, .inl f_this_face)), (q_this_forehead, .inl (ct 0, 8, .inl f_this_forehead))] s.heap := hP
  have mG : ∀ (i : Nat) {w : Cond}, gT12[i]? = some w → w ∈ wgX12_unlikePeople := fun i w h => List.mem_cons_of_mem _ (List.mem_of_getElem? h)
  have hl : lv_has ls 3 [(0, .ref q_this), (1, .int p1), (2, .int p2)] := hl
  obtain ⟨R, hRe⟩ : ∃ R : (Int32), R = m_Model_unlikePeople f_this_face f_this_forehead p1 p2 := ⟨_, rfl⟩
  have hR : uy_Q R (fun z : (Int32) => z) (m_Model_unlikePeople f_this_face f_this_forehead p1 p2) := hRe
  have hin_Model : ∀ w ∈ u_ws RX12 TX12 65, w ∈ wgX12_unlikePeople := fun w h => List.mem_cons_of_mem _ (ingT12_X12 w h)
  delta m_Model_unlikePeople at hR
  refine lv_aload_n hx hb dX12_unlikePeople_0 rfl (lv_at hl 0 rfl) ?_
  refine va_get (D := D) (ci := 11) (v := .ref q_this_face) (C := RX12) (T := TX12) (N := 65) hx hb hts hin_Model hown hK hP 0 rfl rfl 33 (by decide) (hts (.fieldLink RX12 96 "GutterSeatsModel" "face" "[I") (List.mem_cons_of_mem _ (gm12 0 28 (by first | rfl | decide +kernel)))) (fun _ h9 => h9) rfl dX12_unlikePeople_1 ?_
  refine lv_iload_n hx hb dX12_unlikePeople_4 rfl (lv_at hl 1 rfl) ?_
  have n1 : vp_in p1 8 := iv_in i_p1 (by decide) (by decide)
  refine va_iald hx hb hK hP 1 0 rfl rfl n1 dX12_unlikePeople_5 ?_
  refine lv_topi (fun x2 ex2 => ?_)
  replace hR := uy_Ls ex2 hR
  refine lv_aload_n hx hb dX12_unlikePeople_6 rfl (lv_at hl 0 rfl) ?_
  refine va_get (D := D) (ci := 11) (v := .ref q_this_face) (C := RX12) (T := TX12) (N := 65) hx hb hts hin_Model hown hK hP 0 rfl rfl 33 (by decide) (hts (.fieldLink RX12 96 "GutterSeatsModel" "face" "[I") (List.mem_cons_of_mem _ (gm12 0 28 (by first | rfl | decide +kernel)))) (fun _ h9 => h9) rfl dX12_unlikePeople_7 ?_
  refine lv_iload_n hx hb dX12_unlikePeople_10 rfl (lv_at hl 2 rfl) ?_
  have n3 : vp_in p2 8 := iv_in i_p2 (by decide) (by decide)
  refine va_iald hx hb hK hP 1 0 rfl rfl n3 dX12_unlikePeople_11 ?_
  refine lv_topi (fun x4 ex4 => ?_)
  replace hR := uy_Ls ex4 hR
  refine lv_isub hx hb dX12_unlikePeople_12 ?_
  refine lv_topi (fun x5 ex5 => ?_)
  replace hR := uy_Ls ex5 hR
  refine va_mabs hx hb (by rw [hml]; exact hl.1.symm) hown (hts (.methodLink RX12 339 Lib.Math.abs.name) (List.mem_cons_of_mem _ (gm12 4 8 (by first | rfl | decide +kernel)))) (hts (.static Lib.Math.abs.name) (List.mem_cons_of_mem _ (gm12 4 9 (by first | rfl | decide +kernel)))) (hts (.initialized "java/lang/Math") (List.mem_cons_of_mem _ (gm12 1 17 (by first | rfl | decide +kernel)))) (hts (.code Lib.Math.abs.name Lib.Math.abs.code 1 (some .int)) (List.mem_cons_of_mem _ (gm12 4 10 (by first | rfl | decide +kernel)))) (Nat.le_of_ble_eq_true rfl) (Nat.le_of_ble_eq_true rfl) (Nat.le_of_ble_eq_true rfl) (Nat.le_of_ble_eq_true rfl) dX12_unlikePeople_13 ?_
  refine lv_topi (fun x6 ex6 => ?_)
  replace hR := uy_Ls ex6 hR
  refine lv_aload_n hx hb dX12_unlikePeople_16 rfl (lv_at hl 0 rfl) ?_
  refine va_get (D := D) (ci := 11) (v := .ref q_this_forehead) (C := RX12) (T := TX12) (N := 65) hx hb hts hin_Model hown hK hP 0 rfl rfl 34 (by decide) (hts (.fieldLink RX12 99 "GutterSeatsModel" "forehead" "[I") (List.mem_cons_of_mem _ (gm12 0 29 (by first | rfl | decide +kernel)))) (fun _ h9 => h9) rfl dX12_unlikePeople_17 ?_
  refine lv_iload_n hx hb dX12_unlikePeople_20 rfl (lv_at hl 1 rfl) ?_
  have n7 : vp_in p1 8 := iv_in i_p1 (by decide) (by decide)
  refine va_iald hx hb hK hP 2 0 rfl rfl n7 dX12_unlikePeople_21 ?_
  refine lv_topi (fun x8 ex8 => ?_)
  replace hR := uy_Ls ex8 hR
  refine lv_aload_n hx hb dX12_unlikePeople_22 rfl (lv_at hl 0 rfl) ?_
  refine va_get (D := D) (ci := 11) (v := .ref q_this_forehead) (C := RX12) (T := TX12) (N := 65) hx hb hts hin_Model hown hK hP 0 rfl rfl 34 (by decide) (hts (.fieldLink RX12 99 "GutterSeatsModel" "forehead" "[I") (List.mem_cons_of_mem _ (gm12 0 29 (by first | rfl | decide +kernel)))) (fun _ h9 => h9) rfl dX12_unlikePeople_23 ?_
  refine lv_iload_n hx hb dX12_unlikePeople_26 rfl (lv_at hl 2 rfl) ?_
  have n9 : vp_in p2 8 := iv_in i_p2 (by decide) (by decide)
  refine va_iald hx hb hK hP 2 0 rfl rfl n9 dX12_unlikePeople_27 ?_
  refine lv_topi (fun x10 ex10 => ?_)
  replace hR := uy_Ls ex10 hR
  refine lv_isub hx hb dX12_unlikePeople_28 ?_
  refine lv_topi (fun x11 ex11 => ?_)
  replace hR := uy_Ls ex11 hR
  refine va_mabs hx hb (by rw [hml]; exact hl.1.symm) hown (hts (.methodLink RX12 339 Lib.Math.abs.name) (List.mem_cons_of_mem _ (gm12 4 8 (by first | rfl | decide +kernel)))) (hts (.static Lib.Math.abs.name) (List.mem_cons_of_mem _ (gm12 4 9 (by first | rfl | decide +kernel)))) (hts (.initialized "java/lang/Math") (List.mem_cons_of_mem _ (gm12 1 17 (by first | rfl | decide +kernel)))) (hts (.code Lib.Math.abs.name Lib.Math.abs.code 1 (some .int)) (List.mem_cons_of_mem _ (gm12 4 10 (by first | rfl | decide +kernel)))) (Nat.le_of_ble_eq_true rfl) (Nat.le_of_ble_eq_true rfl) (Nat.le_of_ble_eq_true rfl) (Nat.le_of_ble_eq_true rfl) dX12_unlikePeople_29 ?_
  refine lv_topi (fun x12 ex12 => ?_)
  replace hR := uy_Ls ex12 hR
  refine lv_iadd hx hb dX12_unlikePeople_32 ?_
  refine lv_topi (fun x13 ex13 => ?_)
  replace hR := uy_Ls ex13 hR
  exact hE _ _ _ ((uy_Q0 hR).symm.trans hRe) dX12_unlikePeople_33
abbrev rm_Model_rainOf : Room := { frames := 0, cells := 0, slots := 0, locals := 0 }
abbrev wgX12_rainOf : List Cond := .code yX12_rainOf cX12_rainOf 2 (some .int) :: gT12
set_option maxHeartbeats 4000000 in
set_option maxRecDepth 100000 in
theorem c_Model_rainOf (l : Launch) (D : va_G) (ct : Nat → ClassId) (q_this q_this_told q_this_rains q_this_sorts q_this_ofWears q_this_ofSits q_this_values q_this_jawTold q_this_browTold q_this_stoneTold q_this_orphan q_this_faceTold q_this_foreheadTold q_this_ageTold q_this_familyTold q_this_signsWears q_this_signsSits q_this_status q_this_tape q_this_jaw q_this_brow q_this_stone q_this_face q_this_forehead q_this_age q_this_family q_this_seat q_this_past q_this_asked q_this_stack q_this_rowThen q_this_leastBy q_this_seenWho q_this_seenIn q_this_seenJaw q_this_rowSeen q_this_fit q_this_seatThen q_this_gains q_this_imageRow q_this_pastThen q_this_seenWhoThen q_this_seenInThen q_this_seenJawThen q_this_statusThen : Nat) (x_this_code x_this_taped x_this_at x_this_size x_this_token x_this_number x_this_begins x_this_stops x_this_bad x_this_badPlace x_this_faultPlace x_this_ofSitting x_this_yearNow x_this_acts x_this_seen x_this_satDown x_this_fitMany x_this_seedNow x_this_hasImage x_this_actsThen x_this_seenThen : Int32) (f_this_told f_this_rains : Nat → Int32) (p1 : Int32) (i_x_this_taped : iv x_this_taped 0 700) (i_x_this_ofSitting : iv x_this_ofSitting 0 1) (i_x_this_yearNow : iv x_this_yearNow 0 5000) (i_x_this_acts : iv x_this_acts 0 40) (i_x_this_seen : iv x_this_seen 0 8) (i_x_this_fitMany : iv x_this_fitMany 0 800) (i_x_this_hasImage : iv x_this_hasImage 0 1) (i_x_this_actsThen : iv x_this_actsThen 0 40) (i_x_this_seenThen : iv x_this_seenThen 0 8) (i_p1 : iv p1 0 5000) (tv : tv f_this_told) : cP l yX12_rainOf wgX12_rainOf rm_Model_rainOf D ct [(q_this, .inr (11, [.ref q_this_sorts, .ref q_this_ofWears, .ref q_this_ofSits, .ref q_this_values, .int x_this_code, .ref q_this_told, .ref q_this_jawTold, .ref q_this_browTold, .ref q_this_stoneTold, .ref q_this_orphan, .ref q_this_faceTold, .ref q_this_foreheadTold, .ref q_this_ageTold, .ref q_this_familyTold, .ref q_this_rains, .ref q_this_signsWears, .ref q_this_signsSits, .ref q_this_status, .ref q_this_tape, .int x_this_taped, .int x_this_at, .int x_this_size, .int x_this_token, .int x_this_number, .int x_this_begins, .int x_this_stops, .int x_this_bad, .int x_this_badPlace, .int x_this_faultPlace, .int x_this_ofSitting, .ref q_this_jaw, .ref q_this_brow, .ref q_this_stone, .ref q_this_face, .ref q_this_forehead, .ref q_this_age, .ref q_this_family, .ref q_this_seat, .ref q_this_past, .int x_this_yearNow, .int x_this_acts, .int x_this_seen, .ref q_this_asked, .ref q_this_stack, .int x_this_satDown, .ref q_this_rowThen, .ref q_this_leastBy, .ref q_this_seenWho, .ref q_this_seenIn, .ref q_this_seenJaw, .ref q_this_rowSeen, .ref q_this_fit, .ref q_this_seatThen, .int x_this_fitMany, .ref q_this_gains, .int x_this_seedNow, .int x_this_hasImage, .int x_this_actsThen, .int x_this_seenThen, .ref q_this_imageRow, .ref q_this_pastThen, .ref q_this_seenWhoThen, .ref q_this_seenInThen, .ref q_this_seenJawThen, .ref q_this_statusThen])), (q_this_told, .inl (ct 0, 12, .inl f_this_told)), (q_this_rains, .inl (ct 0, 16, .inl f_this_rains))] [.ref q_this, .int p1] (fun r : Int32 => r = m_Model_rainOf f_this_told f_this_rains p1) := by
  refine cP_of (cc := cX12_rainOf) (maxL := 2) (by decide) rfl (Nat.le_of_ble_eq_true rfl) ?_
  intro p e s m args below meth c Q hx hb hml hts hown hK hP hE ls hl
  have hP : va_P D vwCl [(q_this, .inr (11, [.ref q_this_sorts, .ref q_this_ofWears, .ref q_this_ofSits, .ref q_this_values, .int x_this_code, .ref q_this_told, .ref q_this_jawTold, .ref q_this_browTold, .ref q_this_stoneTold, .ref q_this_orphan, .ref q_this_faceTold, .ref q_this_foreheadTold, .ref q_this_ageTold, .ref q_this_familyTold, .ref q_this_rains, .ref q_this_signsWears, .ref q_this_signsSits, .ref q_this_status, .ref q_this_tape, .int x_this_taped, .int x_this_at, .int x_this_size, .int x_this_token, .int x_this_number, .int x_this_begins, .int x_this_stops, .int x_this_bad, .int x_this_badPlace, .int x_this_faultPlace, .int x_this_ofSitting, .ref q_this_jaw, .ref q_this_brow, .ref q_this_stone, .ref q_this_face, .ref q_this_forehead, .ref q_this_age, .ref q_this_family, .ref q_this_seat, .ref q_this_past, .int x_this_yearNow, .int x_this_acts, .int x_this_seen, .ref q_this_asked, .ref q_this_stack, .int x_this_satDown, .ref q_this_rowThen, .ref q_this_leastBy, .ref q_this_seenWho, .ref q_this_seenIn, .ref q_this_seenJaw, .ref q_this_rowSeen, .ref q_this_fit, .ref q_this_seatThen, .int x_this_fitMany, .ref q_this_gains, .int x_this_seedNow, .int x_this_hasImage, .int x_this_actsThen, .int x_this_seenThen, .ref q_this_imageRow, .ref q_this_pastThen, .ref q_this_seenWhoThen, .ref q_this_seenInThen, .ref q_this_seenJawThen, .ref q_this_statusThen])), (q_this_told, .inl (ct 0, 12, .inl f_this_told)), (q_this_rains, .inl (ct 0, 16, .inl f_this_rains))] s.heap := hP
  have mG : ∀ (i : Nat) {w : Cond}, gT12[i]? = some w → w ∈ wgX12_rainOf := fun i w h => List.mem_cons_of_mem _ (List.mem_of_getElem? h)
  have hl : lv_has ls 2 [(0, .ref q_this), (1, .int p1)] := hl
  obtain ⟨R, hRe⟩ : ∃ R : (Int32), R = m_Model_rainOf f_this_told f_this_rains p1 := ⟨_, rfl⟩
  have hR : uy_Q R (fun z : (Int32) => z) (m_Model_rainOf f_this_told f_this_rains p1) := hRe
  have hin_Model : ∀ w ∈ u_ws RX12 TX12 65, w ∈ wgX12_rainOf := fun w h => List.mem_cons_of_mem _ (ingT12_X12 w h)
  delta m_Model_rainOf at hR
  refine lv_aload_n hx hb dX12_rainOf_0 rfl (lv_at hl 0 rfl) ?_
  refine va_get (D := D) (ci := 11) (v := .ref q_this_told) (C := RX12) (T := TX12) (N := 65) hx hb hts hin_Model hown hK hP 0 rfl rfl 5 (by decide) (hts (.fieldLink RX12 42 "GutterSeatsModel" "told" "[I") (List.mem_cons_of_mem _ (gm12 0 10 (by first | rfl | decide +kernel)))) (fun _ h9 => h9) rfl dX12_rainOf_1 ?_
  refine lv_iconst (v := 2) hx hb dX12_rainOf_4 (by decide) ?_
  have n1 : vp_in (2 : Int32) 12 := iv_in (iv_lit (2 : Int32) (by decide) : iv (2 : Int32) 2 2) (by decide) (by decide)
  refine va_iald hx hb hK hP 1 0 rfl rfl n1 dX12_rainOf_5 ?_
  refine lv_topi (fun x2 ex2 => ?_)
  replace hR := uy_Ls ex2 hR
  have i_x2 : iv x2 0 8 := by rw [ex2]; exact tv.2.2.1
  refine lv_if_ne (tgt := 13) hx hb dX12_rainOf_6 (by decide) (fun c3 => ?_) (fun c3 => ?_)
  ·
    replace hR := uy_Qn c3 hR
    have j4 : iv x2 1 8 := iv_neL c3 i_x2 rfl (by decide)
    refine lv_aload_n hx hb dX12_rainOf_13 rfl (lv_at hl 0 rfl) ?_
    refine va_get (D := D) (ci := 11) (v := .ref q_this_rains) (C := RX12) (T := TX12) (N := 65) hx hb hts hin_Model hown hK hP 0 rfl rfl 14 (by decide) (hts (.fieldLink RX12 69 "GutterSeatsModel" "rains" "[I") (List.mem_cons_of_mem _ (gm12 0 19 (by first | rfl | decide +kernel)))) (fun _ h9 => h9) rfl dX12_rainOf_14 ?_
    refine lv_iload_n hx hb dX12_rainOf_17 rfl (lv_at hl 1 rfl) ?_
    refine lv_aload_n hx hb dX12_rainOf_18 rfl (lv_at hl 0 rfl) ?_
    refine va_get (D := D) (ci := 11) (v := .ref q_this_told) (C := RX12) (T := TX12) (N := 65) hx hb hts hin_Model hown hK hP 0 rfl rfl 5 (by decide) (hts (.fieldLink RX12 42 "GutterSeatsModel" "told" "[I") (List.mem_cons_of_mem _ (gm12 0 10 (by first | rfl | decide +kernel)))) (fun _ h9 => h9) rfl dX12_rainOf_19 ?_
    refine lv_iconst (v := 2) hx hb dX12_rainOf_22 (by decide) ?_
    have n5 : vp_in (2 : Int32) 12 := iv_in (iv_lit (2 : Int32) (by decide) : iv (2 : Int32) 2 2) (by decide) (by decide)
    refine va_iald hx hb hK hP 1 0 rfl rfl n5 dX12_rainOf_23 ?_
    refine lv_tope ex2.symm ?_
    refine lv_irem hx hb dX12_rainOf_24 (ne0_iv j4 (by decide)) ?_
    refine lv_topi (fun x6 ex6 => ?_)
    replace hR := uy_Ls ex6 hR
    have i_x6 : iv x6 0 7 := iv_rem ex6 (iv_w i_p1 (by decide) (by decide) : iv _ 0 5000) j4 (by decide) (by decide)
    have n7 : vp_in x6 16 := iv_in i_x6 (by decide) (by decide)
    refine va_iald hx hb hK hP 2 0 rfl rfl n7 dX12_rainOf_25 ?_
    refine lv_topi (fun x8 ex8 => ?_)
    replace hR := uy_Ls ex8 hR
    exact hE _ _ _ ((uy_Q0 hR).symm.trans hRe) dX12_rainOf_26
  ·
    replace hR := uy_Qp c3 hR
    have j9 : iv x2 0 0 := by rw [c3]; exact (iv_lit (0 : Int32) (by decide) : iv (0 : Int32) 0 0)
    refine lv_iconst (v := 3) hx hb dX12_rainOf_9 (by decide) ?_
    refine lv_goto (tgt := 26) hx hb dX12_rainOf_10 (by decide) ?_
    exact hE _ _ _ ((uy_Q0 hR).symm.trans hRe) dX12_rainOf_26
abbrev rm_Model_mostLike : Room := { frames := 2, cells := 0, slots := 0, locals := 43 }
abbrev wgX12_mostLike : List Cond := .code yX12_mostLike cX12_mostLike 5 (some .int) :: gT12
set_option maxHeartbeats 4000000 in
set_option maxRecDepth 100000 in
theorem c_Model_mostLike (l : Launch) (D : va_G) (ct : Nat → ClassId) (q_this q_this_told q_this_jaw q_this_brow q_this_face q_this_forehead q_this_seat q_this_sorts q_this_ofWears q_this_ofSits q_this_values q_this_jawTold q_this_browTold q_this_stoneTold q_this_orphan q_this_faceTold q_this_foreheadTold q_this_ageTold q_this_familyTold q_this_rains q_this_signsWears q_this_signsSits q_this_status q_this_tape q_this_stone q_this_age q_this_family q_this_past q_this_asked q_this_stack q_this_rowThen q_this_leastBy q_this_seenWho q_this_seenIn q_this_seenJaw q_this_rowSeen q_this_fit q_this_seatThen q_this_gains q_this_imageRow q_this_pastThen q_this_seenWhoThen q_this_seenInThen q_this_seenJawThen q_this_statusThen : Nat) (x_this_code x_this_taped x_this_at x_this_size x_this_token x_this_number x_this_begins x_this_stops x_this_bad x_this_badPlace x_this_faultPlace x_this_ofSitting x_this_yearNow x_this_acts x_this_seen x_this_satDown x_this_fitMany x_this_seedNow x_this_hasImage x_this_actsThen x_this_seenThen : Int32) (f_this_told f_this_jaw f_this_brow f_this_face f_this_forehead f_this_seat : Nat → Int32) (p1 p2 : Int32) (i_x_this_taped : iv x_this_taped 0 700) (i_x_this_ofSitting : iv x_this_ofSitting 0 1) (i_x_this_yearNow : iv x_this_yearNow 0 5000) (i_x_this_acts : iv x_this_acts 0 40) (i_x_this_seen : iv x_this_seen 0 8) (i_x_this_fitMany : iv x_this_fitMany 0 800) (i_x_this_hasImage : iv x_this_hasImage 0 1) (i_x_this_actsThen : iv x_this_actsThen 0 40) (i_x_this_seenThen : iv x_this_seenThen 0 8) (a_f_this_seat : av f_this_seat 8 (-1) 7) (i_p1 : iv p1 0 7) (i_p2 : iv p2 0 1) (tv : tv f_this_told) : cP l yX12_mostLike wgX12_mostLike rm_Model_mostLike D ct [(q_this, .inr (11, [.ref q_this_sorts, .ref q_this_ofWears, .ref q_this_ofSits, .ref q_this_values, .int x_this_code, .ref q_this_told, .ref q_this_jawTold, .ref q_this_browTold, .ref q_this_stoneTold, .ref q_this_orphan, .ref q_this_faceTold, .ref q_this_foreheadTold, .ref q_this_ageTold, .ref q_this_familyTold, .ref q_this_rains, .ref q_this_signsWears, .ref q_this_signsSits, .ref q_this_status, .ref q_this_tape, .int x_this_taped, .int x_this_at, .int x_this_size, .int x_this_token, .int x_this_number, .int x_this_begins, .int x_this_stops, .int x_this_bad, .int x_this_badPlace, .int x_this_faultPlace, .int x_this_ofSitting, .ref q_this_jaw, .ref q_this_brow, .ref q_this_stone, .ref q_this_face, .ref q_this_forehead, .ref q_this_age, .ref q_this_family, .ref q_this_seat, .ref q_this_past, .int x_this_yearNow, .int x_this_acts, .int x_this_seen, .ref q_this_asked, .ref q_this_stack, .int x_this_satDown, .ref q_this_rowThen, .ref q_this_leastBy, .ref q_this_seenWho, .ref q_this_seenIn, .ref q_this_seenJaw, .ref q_this_rowSeen, .ref q_this_fit, .ref q_this_seatThen, .int x_this_fitMany, .ref q_this_gains, .int x_this_seedNow, .int x_this_hasImage, .int x_this_actsThen, .int x_this_seenThen, .ref q_this_imageRow, .ref q_this_pastThen, .ref q_this_seenWhoThen, .ref q_this_seenInThen, .ref q_this_seenJawThen, .ref q_this_statusThen])), (q_this_told, .inl (ct 0, 12, .inl f_this_told)), (q_this_jaw, .inl (ct 0, 8, .inl f_this_jaw)), (q_this_brow, .inl (ct 0, 8, .inl f_this_brow)), (q_this_face, .inl (ct 0, 8, .inl f_this_face)), (q_this_forehead, .inl (ct 0, 8, .inl f_this_forehead)), (q_this_seat, .inl (ct 0, 8, .inl f_this_seat))] [.ref q_this, .int p1, .int p2] (fun r : Int32 => iv r (-1) 7 ∧ r = m_Model_mostLike f_this_told f_this_jaw f_this_brow f_this_face f_this_forehead f_this_seat p1 p2) := by
  refine cP_of (cc := cX12_mostLike) (maxL := 5) (by decide) rfl (Nat.le_of_ble_eq_true rfl) ?_
  intro p e s m args below meth c Q hx hb hml hts hown hK hP hE ls hl
  have hP : va_P D vwCl [(q_this, .inr (11, [.ref q_this_sorts, .ref q_this_ofWears, .ref q_this_ofSits, .ref q_this_values, .int x_this_code, .ref q_this_told, .ref q_this_jawTold, .ref q_this_browTold, .ref q_this_stoneTold, .ref q_this_orphan, .ref q_this_faceTold, .ref q_this_foreheadTold, .ref q_this_ageTold, .ref q_this_familyTold, .ref q_this_rains, .ref q_this_signsWears, .ref q_this_signsSits, .ref q_this_status, .ref q_this_tape, .int x_this_taped, .int x_this_at, .int x_this_size, .int x_this_token, .int x_this_number, .int x_this_begins, .int x_this_stops, .int x_this_bad, .int x_this_badPlace, .int x_this_faultPlace, .int x_this_ofSitting, .ref q_this_jaw, .ref q_this_brow, .ref q_this_stone, .ref q_this_face, .ref q_this_forehead, .ref q_this_age, .ref q_this_family, .ref q_this_seat, .ref q_this_past, .int x_this_yearNow, .int x_this_acts, .int x_this_seen, .ref q_this_asked, .ref q_this_stack, .int x_this_satDown, .ref q_this_rowThen, .ref q_this_leastBy, .ref q_this_seenWho, .ref q_this_seenIn, .ref q_this_seenJaw, .ref q_this_rowSeen, .ref q_this_fit, .ref q_this_seatThen, .int x_this_fitMany, .ref q_this_gains, .int x_this_seedNow, .int x_this_hasImage, .int x_this_actsThen, .int x_this_seenThen, .ref q_this_imageRow, .ref q_this_pastThen, .ref q_this_seenWhoThen, .ref q_this_seenInThen, .ref q_this_seenJawThen, .ref q_this_statusThen])), (q_this_told, .inl (ct 0, 12, .inl f_this_told)), (q_this_jaw, .inl (ct 0, 8, .inl f_this_jaw)), (q_this_brow, .inl (ct 0, 8, .inl f_this_brow)), (q_this_face, .inl (ct 0, 8, .inl f_this_face)), (q_this_forehead, .inl (ct 0, 8, .inl f_this_forehead)), (q_this_seat, .inl (ct 0, 8, .inl f_this_seat))] s.heap := hP
  have mG : ∀ (i : Nat) {w : Cond}, gT12[i]? = some w → w ∈ wgX12_mostLike := fun i w h => List.mem_cons_of_mem _ (List.mem_of_getElem? h)
  have hl : lv_has ls 5 [(0, .ref q_this), (1, .int p1), (2, .int p2)] := hl
  obtain ⟨R, hRe⟩ : ∃ R : (Int32), R = m_Model_mostLike f_this_told f_this_jaw f_this_brow f_this_face f_this_forehead f_this_seat p1 p2 := ⟨_, rfl⟩
  have hR : uy_Q R (fun z : (Int32) => z) (m_Model_mostLike f_this_told f_this_jaw f_this_brow f_this_face f_this_forehead f_this_seat p1 p2) := hRe
  have hin_Model : ∀ w ∈ u_ws RX12 TX12 65, w ∈ wgX12_mostLike := fun w h => List.mem_cons_of_mem _ (ingT12_X12 w h)
  have K5 : ∀ (n5 : Nat) (v3c5 v4c5 : Int32) (ls : Array Slot), iv v3c5 (-1) 7 → iv v4c5 0 8 → (8 - v4c5.toInt).toNat < n5 → uy_Q R (fun z : (Int32) => z) (m_Model_mostLike_k5 f_this_told f_this_jaw f_this_brow f_this_face f_this_forehead f_this_seat p1 p2 (v3c5, v4c5)) → lv_has ls 5 [(0, .ref q_this), (1, .int p1), (2, .int p2), (3, .int v3c5), (4, .int v4c5)] → W p l e rm_Model_mostLike s m args below meth c s.heap [] 0 0 Q (F0 m 5 ls []) := by
    intro n5
    induction n5 with
    | zero => intro v3c5 v4c5 ls i_v3c5 i_v4c5 hm5 hR hl; exact absurd hm5 (Nat.not_lt_zero _)
    | succ n5 ih5 =>
      intro v3c5 v4c5 ls i_v3c5 i_v4c5 hm5 hR hl
      replace hR : uy_Q R (uy_E (fun z : (Int32) => z) (m_Model_mostLike_k5 f_this_told f_this_jaw f_this_brow f_this_face f_this_forehead f_this_seat p1 p2)) (m_Model_mostLike_b5 f_this_told f_this_jaw f_this_brow f_this_face f_this_forehead f_this_seat p1 p2 v3c5 v4c5) := uy_whs hR
      have K57 : ∀ (v3c57 v4c57 : Int32) (ls : Array Slot), iv v3c57 (-1) 7 → iv v4c57 0 7 → (8 - v4c57.toInt).toNat < n5 + 1 → uy_Q R (uy_E (fun z : (Int32) => z) (m_Model_mostLike_k5 f_this_told f_this_jaw f_this_brow f_this_face f_this_forehead f_this_seat p1 p2)) (m_Model_mostLike_k57 f_this_told f_this_jaw f_this_brow f_this_face f_this_forehead f_this_seat p1 p2 v3c57 v4c57) → lv_has ls 5 [(0, .ref q_this), (1, .int p1), (2, .int p2), (3, .int v3c57), (4, .int v4c57)] → W p l e rm_Model_mostLike s m args below meth c s.heap [] 0 0 Q (F0 m 57 ls []) := by
        intro v3c57 v4c57 ls i_v3c57 i_v4c57 hm5 hR hl
        delta m_Model_mostLike_k57 at hR
        obtain ⟨x1, ex1⟩ : ∃ z : Int32, z = v4c57 + (1 : Int32) := ⟨_, rfl⟩
        refine lv_iinc (v := x1) (lv' := [(4, .int x1), (0, .ref q_this), (1, .int p1), (2, .int p2), (3, .int v3c57)]) hx hb dX12_mostLike_57 hl (k := 4) rfl (by rw [ex1]; rfl) (by decide) rfl (fun ls hl => ?_)
        replace hR := uy_Ls ex1 hR
        have i_x1 : iv x1 1 8 := iv_add ex1 i_v4c57 (iv_lit (1 : Int32) (by decide) : iv (1 : Int32) 1 1) (by decide) (by decide) (by decide) (by decide)
        refine lv_goto (tgt := 5) hx hb dX12_mostLike_60 (by decide) ?_
        exact ih5 v3c57 x1 ls i_v3c57 (iv_w i_x1 (by decide) (by decide)) (ms_up ex1 i_v4c57 (by decide) (by decide) hm5) (uy_Ql hR) (lv_sub hl [1, 2, 3, 4, 0] rfl)
      have K54 : ∀ (v4c54 : Int32) (ls : Array Slot), iv v4c54 0 7 → (8 - v4c54.toInt).toNat < n5 + 1 → uy_Q R (uy_E (fun z : (Int32) => z) (m_Model_mostLike_k5 f_this_told f_this_jaw f_this_brow f_this_face f_this_forehead f_this_seat p1 p2)) (m_Model_mostLike_k54 f_this_told f_this_jaw f_this_brow f_this_face f_this_forehead f_this_seat p1 p2 v4c54) → lv_has ls 5 [(0, .ref q_this), (1, .int p1), (2, .int p2), (4, .int v4c54)] → W p l e rm_Model_mostLike s m args below meth c s.heap [] 0 0 Q (F0 m 54 ls []) := by
        intro v4c54 ls i_v4c54 hm5 hR hl
        delta m_Model_mostLike_k54 at hR
        refine lv_iload hx hb dX12_mostLike_54 (lv_at hl 3 rfl) ?_
        refine lv_istore_n (lv' := [(3, .int v4c54), (0, .ref q_this), (1, .int p1), (2, .int p2), (4, .int v4c54)]) hx hb dX12_mostLike_56 rfl hl (by decide) rfl (fun ls hl => ?_)
        exact K57 v4c54 v4c54 ls (iv_w i_v4c54 (by decide) (by decide)) i_v4c54 hm5 hR (lv_sub hl [1, 2, 3, 0, 4] rfl)
      have K33 : ∀ (v3c33 v4c33 : Int32) (ls : Array Slot), iv v3c33 (-1) 7 → iv v4c33 0 7 → (8 - v4c33.toInt).toNat < n5 + 1 → uy_Q R (uy_E (fun z : (Int32) => z) (m_Model_mostLike_k5 f_this_told f_this_jaw f_this_brow f_this_face f_this_forehead f_this_seat p1 p2)) (m_Model_mostLike_k33 f_this_told f_this_jaw f_this_brow f_this_face f_this_forehead f_this_seat p1 p2 v3c33 v4c33) → lv_has ls 5 [(0, .ref q_this), (1, .int p1), (2, .int p2), (3, .int v3c33), (4, .int v4c33)] → W p l e rm_Model_mostLike s m args below meth c s.heap [] 0 0 Q (F0 m 33 ls []) := by
        intro v3c33 v4c33 ls i_v3c33 i_v4c33 hm5 hR hl
        delta m_Model_mostLike_k33 at hR
        refine lv_iload_n hx hb dX12_mostLike_33 rfl (lv_at hl 3 rfl) ?_
        refine lv_iconst (v := -1) hx hb dX12_mostLike_34 (by decide) ?_
        refine lv_icmp_eq (tgt := 54) hx hb dX12_mostLike_35 (by decide) (fun c2 => ?_) (fun c2 => ?_)
        ·
          replace hR := uy_Qp c2 hR
          have j3 : iv v3c33 (-1) (-1) := by rw [c2]; exact (iv_lit (-1 : Int32) (by decide) : iv (-1 : Int32) (-1) (-1))
          exact K54 v4c33 ls i_v4c33 hm5 hR (lv_sub hl [0, 1, 2, 4] rfl)
        ·
          replace hR := uy_Qn c2 hR
          have j4 : iv v3c33 0 7 := iv_neL c2 i_v3c33 rfl (by decide)
          refine lv_aload_n hx hb dX12_mostLike_38 rfl (lv_at hl 0 rfl) ?_
          refine lv_iload_n hx hb dX12_mostLike_39 rfl (lv_at hl 1 rfl) ?_
          refine lv_iload hx hb dX12_mostLike_40 (lv_at hl 4 rfl) ?_
          refine kPV (rest := []) (ci := 11) ⟨hx, hb, hml, hown, hts⟩ (c_Model_unlikeOf l D ct q_this q_this_jaw q_this_brow q_this_face q_this_forehead q_this_sorts q_this_ofWears q_this_ofSits q_this_values q_this_told q_this_jawTold q_this_browTold q_this_stoneTold q_this_orphan q_this_faceTold q_this_foreheadTold q_this_ageTold q_this_familyTold q_this_rains q_this_signsWears q_this_signsSits q_this_status q_this_tape q_this_stone q_this_age q_this_family q_this_seat q_this_past q_this_asked q_this_stack q_this_rowThen q_this_leastBy q_this_seenWho q_this_seenIn q_this_seenJaw q_this_rowSeen q_this_fit q_this_seatThen q_this_gains q_this_imageRow q_this_pastThen q_this_seenWhoThen q_this_seenInThen q_this_seenJawThen q_this_statusThen x_this_code x_this_taped x_this_at x_this_size x_this_token x_this_number x_this_begins x_this_stops x_this_bad x_this_badPlace x_this_faultPlace x_this_ofSitting x_this_yearNow x_this_acts x_this_seen x_this_satDown x_this_fitMany x_this_seedNow x_this_hasImage x_this_actsThen x_this_seenThen f_this_jaw f_this_brow f_this_face f_this_forehead p1 v4c33 i_x_this_taped i_x_this_ofSitting i_x_this_yearNow i_x_this_acts i_x_this_seen i_x_this_fitMany i_x_this_hasImage i_x_this_actsThen i_x_this_seenThen i_p1 i_v4c33) (cwV 2 hts (gInVm gT12_good (gIn0m gT12_good (gm12 4 7 (by first | rfl | decide +kernel))) (gm12 4 24 (by first | rfl | decide +kernel)) (gm12 4 25 (by first | rfl | decide +kernel)) (gm12 4 26 (by first | rfl | decide +kernel)) (gm12 1 0 (by first | rfl | decide +kernel))) rfl rfl rfl (by first | exact hdX12_unlikeOf_2 | decide +kernel) ⟨(Nat.le_of_ble_eq_true rfl), (Nat.le_of_ble_eq_true rfl)⟩) hK hP [0, 2, 3, 4, 5] rfl rfl rfl rfl rfl hl.1 rfl (Nat.le_of_ble_eq_true rfl) dX12_mostLike_42 ⟨(Nat.le_of_ble_eq_true rfl), (Nat.le_of_ble_eq_true rfl)⟩ (fun r5 hr5 => ?_)
          have m6 : r5 = m_Model_unlikeOf f_this_jaw f_this_brow f_this_face f_this_forehead p1 v4c33 := hr5
          replace hR := uy_Cs1 m6 hR
          refine lv_aload_n hx hb dX12_mostLike_45 rfl (lv_at hl 0 rfl) ?_
          refine lv_iload_n hx hb dX12_mostLike_46 rfl (lv_at hl 1 rfl) ?_
          refine lv_iload_n hx hb dX12_mostLike_47 rfl (lv_at hl 3 rfl) ?_
          refine kPV (rest := [.int r5]) (ci := 11) ⟨hx, hb, hml, hown, hts⟩ (c_Model_unlikeOf l D ct q_this q_this_jaw q_this_brow q_this_face q_this_forehead q_this_sorts q_this_ofWears q_this_ofSits q_this_values q_this_told q_this_jawTold q_this_browTold q_this_stoneTold q_this_orphan q_this_faceTold q_this_foreheadTold q_this_ageTold q_this_familyTold q_this_rains q_this_signsWears q_this_signsSits q_this_status q_this_tape q_this_stone q_this_age q_this_family q_this_seat q_this_past q_this_asked q_this_stack q_this_rowThen q_this_leastBy q_this_seenWho q_this_seenIn q_this_seenJaw q_this_rowSeen q_this_fit q_this_seatThen q_this_gains q_this_imageRow q_this_pastThen q_this_seenWhoThen q_this_seenInThen q_this_seenJawThen q_this_statusThen x_this_code x_this_taped x_this_at x_this_size x_this_token x_this_number x_this_begins x_this_stops x_this_bad x_this_badPlace x_this_faultPlace x_this_ofSitting x_this_yearNow x_this_acts x_this_seen x_this_satDown x_this_fitMany x_this_seedNow x_this_hasImage x_this_actsThen x_this_seenThen f_this_jaw f_this_brow f_this_face f_this_forehead p1 v3c33 i_x_this_taped i_x_this_ofSitting i_x_this_yearNow i_x_this_acts i_x_this_seen i_x_this_fitMany i_x_this_hasImage i_x_this_actsThen i_x_this_seenThen i_p1 j4) (cwV 2 hts (gInVm gT12_good (gIn0m gT12_good (gm12 4 7 (by first | rfl | decide +kernel))) (gm12 4 24 (by first | rfl | decide +kernel)) (gm12 4 25 (by first | rfl | decide +kernel)) (gm12 4 26 (by first | rfl | decide +kernel)) (gm12 1 0 (by first | rfl | decide +kernel))) rfl rfl rfl (by first | exact hdX12_unlikeOf_2 | decide +kernel) ⟨(Nat.le_of_ble_eq_true rfl), (Nat.le_of_ble_eq_true rfl)⟩) hK hP [0, 2, 3, 4, 5] rfl rfl rfl rfl rfl hl.1 rfl (Nat.le_of_ble_eq_true rfl) dX12_mostLike_48 ⟨(Nat.le_of_ble_eq_true rfl), (Nat.le_of_ble_eq_true rfl)⟩ (fun r7 hr7 => ?_)
          have m8 : r7 = m_Model_unlikeOf f_this_jaw f_this_brow f_this_face f_this_forehead p1 v3c33 := hr7
          replace hR := uy_Cs1 m8 hR
          refine lv_icmp_ge (tgt := 57) hx hb dX12_mostLike_51 (by decide) (fun c9 => ?_) (fun c9 => ?_)
          ·
            replace hR := uy_Qp c9 hR
            exact K57 v3c33 v4c33 ls (iv_w j4 (by decide) (by decide)) i_v4c33 hm5 hR (lv_sub hl [0, 1, 2, 3, 4] rfl)
          ·
            replace hR := uy_Qn c9 hR
            have j10 : iv r5 (-2147483648) 2147483646 := iv_ltL (iv_nle c9) (iv_any r5) (iv_any r7) (by decide)
            have j11 : iv r7 (-2147483647) 2147483647 := iv_ltR (iv_nle c9) (iv_any r5) (iv_any r7) (by decide)
            exact K54 v4c33 ls i_v4c33 hm5 hR (lv_sub hl [0, 1, 2, 4] rfl)
      delta m_Model_mostLike_b5 at hR
      refine lv_iload hx hb dX12_mostLike_5 (lv_at hl 4 rfl) ?_
      refine lv_aload_n hx hb dX12_mostLike_7 rfl (lv_at hl 0 rfl) ?_
      refine va_get (D := D) (ci := 11) (v := .ref q_this_told) (C := RX12) (T := TX12) (N := 65) hx hb hts hin_Model hown hK hP 0 rfl rfl 5 (by decide) (hts (.fieldLink RX12 42 "GutterSeatsModel" "told" "[I") (List.mem_cons_of_mem _ (gm12 0 10 (by first | rfl | decide +kernel)))) (fun _ h9 => h9) rfl dX12_mostLike_8 ?_
      refine lv_iconst (v := 0) hx hb dX12_mostLike_11 (by decide) ?_
      have n12 : vp_in (0 : Int32) 12 := iv_in (iv_lit (0 : Int32) (by decide) : iv (0 : Int32) 0 0) (by decide) (by decide)
      refine va_iald hx hb hK hP 1 0 rfl rfl n12 dX12_mostLike_12 ?_
      refine lv_topi (fun x13 ex13 => ?_)
      replace hR := uy_Ls ex13 hR
      have i_x13 : iv x13 0 8 := by rw [ex13]; exact tv.1
      refine lv_icmp_ge (tgt := 63) hx hb dX12_mostLike_13 (by decide) (fun c14 => ?_) (fun c14 => ?_)
      ·
        replace hR := uy_Qp c14 hR
        refine lv_iload_n hx hb dX12_mostLike_63 rfl (lv_at hl 3 rfl) ?_
        exact hE _ _ _ ⟨i_v3c5, ((uy_Q0 (uy_Qr hR)).symm.trans hRe)⟩ dX12_mostLike_64
      ·
        replace hR := uy_Qn c14 hR
        have j15 : iv v4c5 0 7 := iv_ltL (iv_nle c14) i_v4c5 i_x13 (by decide)
        have j16 : iv x13 1 8 := iv_ltR (iv_nle c14) i_v4c5 i_x13 (by decide)
        refine lv_iload_n hx hb dX12_mostLike_16 rfl (lv_at hl 2 rfl) ?_
        refine lv_if_eq (tgt := 33) hx hb dX12_mostLike_17 (by decide) (fun c17 => ?_) (fun c17 => ?_)
        ·
          replace hR := uy_Qp c17 hR
          have j18 : iv p2 0 0 := by rw [c17]; exact (iv_lit (0 : Int32) (by decide) : iv (0 : Int32) 0 0)
          exact K33 v3c5 v4c5 ls i_v3c5 j15 hm5 hR (lv_sub hl [0, 1, 2, 3, 4] rfl)
        ·
          replace hR := uy_Qn c17 hR
          have j19 : iv p2 1 1 := iv_neL c17 i_p2 rfl (by decide)
          refine lv_aload_n hx hb dX12_mostLike_20 rfl (lv_at hl 0 rfl) ?_
          refine lv_iload hx hb dX12_mostLike_21 (lv_at hl 4 rfl) ?_
          refine kPV (rest := []) (ci := 11) ⟨hx, hb, hml, hown, hts⟩ (c_Model_sitterOf l D ct q_this q_this_told q_this_seat q_this_sorts q_this_ofWears q_this_ofSits q_this_values q_this_jawTold q_this_browTold q_this_stoneTold q_this_orphan q_this_faceTold q_this_foreheadTold q_this_ageTold q_this_familyTold q_this_rains q_this_signsWears q_this_signsSits q_this_status q_this_tape q_this_jaw q_this_brow q_this_stone q_this_face q_this_forehead q_this_age q_this_family q_this_past q_this_asked q_this_stack q_this_rowThen q_this_leastBy q_this_seenWho q_this_seenIn q_this_seenJaw q_this_rowSeen q_this_fit q_this_seatThen q_this_gains q_this_imageRow q_this_pastThen q_this_seenWhoThen q_this_seenInThen q_this_seenJawThen q_this_statusThen x_this_code x_this_taped x_this_at x_this_size x_this_token x_this_number x_this_begins x_this_stops x_this_bad x_this_badPlace x_this_faultPlace x_this_ofSitting x_this_yearNow x_this_acts x_this_seen x_this_satDown x_this_fitMany x_this_seedNow x_this_hasImage x_this_actsThen x_this_seenThen f_this_told f_this_seat v4c5 i_x_this_taped i_x_this_ofSitting i_x_this_yearNow i_x_this_acts i_x_this_seen i_x_this_fitMany i_x_this_hasImage i_x_this_actsThen i_x_this_seenThen a_f_this_seat tv) (cwV 1 hts (gInVm gT12_good (gIn0m gT12_good (gm12 4 6 (by first | rfl | decide +kernel))) (gm12 4 28 (by first | rfl | decide +kernel)) (gm12 4 29 (by first | rfl | decide +kernel)) (gm12 4 30 (by first | rfl | decide +kernel)) (gm12 1 0 (by first | rfl | decide +kernel))) rfl rfl rfl (by first | exact hdX12_sitterOf_1 | decide +kernel) ⟨(Nat.le_of_ble_eq_true rfl), (Nat.le_of_ble_eq_true rfl)⟩) hK hP [0, 1, 6] rfl rfl rfl rfl rfl hl.1 rfl (Nat.le_of_ble_eq_true rfl) dX12_mostLike_23 ⟨(Nat.le_of_ble_eq_true rfl), (Nat.le_of_ble_eq_true rfl)⟩ (fun r20 hr20 => ?_)
          have i_r20 : iv r20 (-1) 7 := hr20.1
          have m21 : r20 = m_Model_sitterOf f_this_told f_this_seat v4c5 := hr20.2
          replace hR := uy_Cs1 m21 hR
          refine lv_iconst (v := -1) hx hb dX12_mostLike_26 (by decide) ?_
          refine lv_icmp_eq (tgt := 33) hx hb dX12_mostLike_27 (by decide) (fun c22 => ?_) (fun c22 => ?_)
          ·
            replace hR := uy_Qp c22 hR
            have j23 : iv r20 (-1) (-1) := by rw [c22]; exact (iv_lit (-1 : Int32) (by decide) : iv (-1 : Int32) (-1) (-1))
            exact K33 v3c5 v4c5 ls i_v3c5 j15 hm5 hR (lv_sub hl [0, 1, 2, 3, 4] rfl)
          ·
            replace hR := uy_Qn c22 hR
            have j24 : iv r20 0 7 := iv_neL c22 i_r20 rfl (by decide)
            refine lv_goto (tgt := 57) hx hb dX12_mostLike_30 (by decide) ?_
            exact K57 v3c5 v4c5 ls i_v3c5 j15 hm5 hR (lv_sub hl [0, 1, 2, 3, 4] rfl)
  delta m_Model_mostLike at hR
  refine lv_iconst (v := -1) hx hb dX12_mostLike_0 (by decide) ?_
  refine lv_istore_n (lv' := [(3, .int (-1 : Int32)), (0, .ref q_this), (1, .int p1), (2, .int p2)]) hx hb dX12_mostLike_1 rfl hl (by decide) rfl (fun ls hl => ?_)
  refine lv_iconst (v := 0) hx hb dX12_mostLike_2 (by decide) ?_
  refine lv_istore (lv' := [(4, .int (0 : Int32)), (3, .int (-1 : Int32)), (0, .ref q_this), (1, .int p1), (2, .int p2)]) hx hb dX12_mostLike_3 hl (by decide) rfl (fun ls hl => ?_)
  exact K5 _ (-1 : Int32) (0 : Int32) ls (iv_lit (-1 : Int32) (by decide) : iv (-1 : Int32) (-1) 7) (iv_lit (0 : Int32) (by decide) : iv (0 : Int32) 0 8) (Nat.lt_succ_self _) hR (lv_sub hl [2, 3, 4, 1, 0] rfl)
abbrev rm_Model_loaves : Room := { frames := 0, cells := 0, slots := 0, locals := 0 }
abbrev wgX12_loaves : List Cond := .code yX12_loaves cX12_loaves 3 (some .int) :: gT12
set_option maxHeartbeats 4000000 in
set_option maxRecDepth 100000 in
theorem c_Model_loaves (l : Launch) (D : va_G) (ct : Nat → ClassId) (q_this q_this_told q_this_stone q_this_sorts q_this_ofWears q_this_ofSits q_this_values q_this_jawTold q_this_browTold q_this_stoneTold q_this_orphan q_this_faceTold q_this_foreheadTold q_this_ageTold q_this_familyTold q_this_rains q_this_signsWears q_this_signsSits q_this_status q_this_tape q_this_jaw q_this_brow q_this_face q_this_forehead q_this_age q_this_family q_this_seat q_this_past q_this_asked q_this_stack q_this_rowThen q_this_leastBy q_this_seenWho q_this_seenIn q_this_seenJaw q_this_rowSeen q_this_fit q_this_seatThen q_this_gains q_this_imageRow q_this_pastThen q_this_seenWhoThen q_this_seenInThen q_this_seenJawThen q_this_statusThen : Nat) (x_this_code x_this_taped x_this_at x_this_size x_this_token x_this_number x_this_begins x_this_stops x_this_bad x_this_badPlace x_this_faultPlace x_this_ofSitting x_this_yearNow x_this_acts x_this_seen x_this_satDown x_this_fitMany x_this_seedNow x_this_hasImage x_this_actsThen x_this_seenThen : Int32) (f_this_told f_this_stone : Nat → Int32) (i_x_this_taped : iv x_this_taped 0 700) (i_x_this_ofSitting : iv x_this_ofSitting 0 1) (i_x_this_yearNow : iv x_this_yearNow 0 5000) (i_x_this_acts : iv x_this_acts 0 40) (i_x_this_seen : iv x_this_seen 0 8) (i_x_this_fitMany : iv x_this_fitMany 0 800) (i_x_this_hasImage : iv x_this_hasImage 0 1) (i_x_this_actsThen : iv x_this_actsThen 0 40) (i_x_this_seenThen : iv x_this_seenThen 0 8) (tv : tv f_this_told) : cP l yX12_loaves wgX12_loaves rm_Model_loaves D ct [(q_this, .inr (11, [.ref q_this_sorts, .ref q_this_ofWears, .ref q_this_ofSits, .ref q_this_values, .int x_this_code, .ref q_this_told, .ref q_this_jawTold, .ref q_this_browTold, .ref q_this_stoneTold, .ref q_this_orphan, .ref q_this_faceTold, .ref q_this_foreheadTold, .ref q_this_ageTold, .ref q_this_familyTold, .ref q_this_rains, .ref q_this_signsWears, .ref q_this_signsSits, .ref q_this_status, .ref q_this_tape, .int x_this_taped, .int x_this_at, .int x_this_size, .int x_this_token, .int x_this_number, .int x_this_begins, .int x_this_stops, .int x_this_bad, .int x_this_badPlace, .int x_this_faultPlace, .int x_this_ofSitting, .ref q_this_jaw, .ref q_this_brow, .ref q_this_stone, .ref q_this_face, .ref q_this_forehead, .ref q_this_age, .ref q_this_family, .ref q_this_seat, .ref q_this_past, .int x_this_yearNow, .int x_this_acts, .int x_this_seen, .ref q_this_asked, .ref q_this_stack, .int x_this_satDown, .ref q_this_rowThen, .ref q_this_leastBy, .ref q_this_seenWho, .ref q_this_seenIn, .ref q_this_seenJaw, .ref q_this_rowSeen, .ref q_this_fit, .ref q_this_seatThen, .int x_this_fitMany, .ref q_this_gains, .int x_this_seedNow, .int x_this_hasImage, .int x_this_actsThen, .int x_this_seenThen, .ref q_this_imageRow, .ref q_this_pastThen, .ref q_this_seenWhoThen, .ref q_this_seenInThen, .ref q_this_seenJawThen, .ref q_this_statusThen])), (q_this_told, .inl (ct 0, 12, .inl f_this_told)), (q_this_stone, .inl (ct 0, 8, .inl f_this_stone))] [.ref q_this] (fun r : Int32 => r = m_Model_loaves f_this_told f_this_stone) := by
  refine cP_of (cc := cX12_loaves) (maxL := 3) (by decide) rfl (Nat.le_of_ble_eq_true rfl) ?_
  intro p e s m args below meth c Q hx hb hml hts hown hK hP hE ls hl
  have hP : va_P D vwCl [(q_this, .inr (11, [.ref q_this_sorts, .ref q_this_ofWears, .ref q_this_ofSits, .ref q_this_values, .int x_this_code, .ref q_this_told, .ref q_this_jawTold, .ref q_this_browTold, .ref q_this_stoneTold, .ref q_this_orphan, .ref q_this_faceTold, .ref q_this_foreheadTold, .ref q_this_ageTold, .ref q_this_familyTold, .ref q_this_rains, .ref q_this_signsWears, .ref q_this_signsSits, .ref q_this_status, .ref q_this_tape, .int x_this_taped, .int x_this_at, .int x_this_size, .int x_this_token, .int x_this_number, .int x_this_begins, .int x_this_stops, .int x_this_bad, .int x_this_badPlace, .int x_this_faultPlace, .int x_this_ofSitting, .ref q_this_jaw, .ref q_this_brow, .ref q_this_stone, .ref q_this_face, .ref q_this_forehead, .ref q_this_age, .ref q_this_family, .ref q_this_seat, .ref q_this_past, .int x_this_yearNow, .int x_this_acts, .int x_this_seen, .ref q_this_asked, .ref q_this_stack, .int x_this_satDown, .ref q_this_rowThen, .ref q_this_leastBy, .ref q_this_seenWho, .ref q_this_seenIn, .ref q_this_seenJaw, .ref q_this_rowSeen, .ref q_this_fit, .ref q_this_seatThen, .int x_this_fitMany, .ref q_this_gains, .int x_this_seedNow, .int x_this_hasImage, .int x_this_actsThen, .int x_this_seenThen, .ref q_this_imageRow, .ref q_this_pastThen, .ref q_this_seenWhoThen, .ref q_this_seenInThen, .ref q_this_seenJawThen, .ref q_this_statusThen])), (q_this_told, .inl (ct 0, 12, .inl f_this_told)), (q_this_stone, .inl (ct 0, 8, .inl f_this_stone))] s.heap := hP
  have mG : ∀ (i : Nat) {w : Cond}, gT12[i]? = some w → w ∈ wgX12_loaves := fun i w h => List.mem_cons_of_mem _ (List.mem_of_getElem? h)
  have hl : lv_has ls 3 [(0, .ref q_this)] := hl
  obtain ⟨R, hRe⟩ : ∃ R : (Int32), R = m_Model_loaves f_this_told f_this_stone := ⟨_, rfl⟩
  have hR : uy_Q R (fun z : (Int32) => z) (m_Model_loaves f_this_told f_this_stone) := hRe
  have hin_Model : ∀ w ∈ u_ws RX12 TX12 65, w ∈ wgX12_loaves := fun w h => List.mem_cons_of_mem _ (ingT12_X12 w h)
  have K4 : ∀ (n4 : Nat) (v1c4 v2c4 : Int32) (ls : Array Slot), iv v1c4 0 255 → iv v2c4 0 8 → (8 - v2c4.toInt).toNat < n4 → uy_Q R (fun z : (Int32) => z) (m_Model_loaves_k4 f_this_told f_this_stone (v1c4, v2c4)) → lv_has ls 3 [(0, .ref q_this), (1, .int v1c4), (2, .int v2c4)] → W p l e rm_Model_loaves s m args below meth c s.heap [] 0 0 Q (F0 m 4 ls []) := by
    intro n4
    induction n4 with
    | zero => intro v1c4 v2c4 ls i_v1c4 i_v2c4 hm4 hR hl; exact absurd hm4 (Nat.not_lt_zero _)
    | succ n4 ih4 =>
      intro v1c4 v2c4 ls i_v1c4 i_v2c4 hm4 hR hl
      replace hR : uy_Q R (uy_E (fun z : (Int32) => z) (m_Model_loaves_k4 f_this_told f_this_stone)) (m_Model_loaves_b4 f_this_told f_this_stone v1c4 v2c4) := uy_whs hR
      have K31 : ∀ (v2c31 s0c31 s1c31 : Int32) (ls : Array Slot), iv v2c31 0 7 → iv s0c31 0 128 → iv s1c31 0 255 → (8 - v2c31.toInt).toNat < n4 + 1 → uy_Q R (uy_E (fun z : (Int32) => z) (m_Model_loaves_k4 f_this_told f_this_stone)) (m_Model_loaves_k31 f_this_told f_this_stone v2c31 s0c31 s1c31) → lv_has ls 3 [(0, .ref q_this), (2, .int v2c31)] → W p l e rm_Model_loaves s m args below meth c s.heap [] 0 0 Q (F0 m 31 ls [.int s0c31, .int s1c31]) := by
        intro v2c31 s0c31 s1c31 ls i_v2c31 i_s0c31 i_s1c31 hm4 hR hl
        delta m_Model_loaves_k31 at hR
        refine lv_ior hx hb dX12_loaves_31 ?_
        refine lv_topi (fun x1 ex1 => ?_)
        replace hR := uy_Ls ex1 hR
        have i_x1 : iv x1 0 255 := iv_or 8 ex1 (iv_w i_s1c31 (by decide) (by decide) : iv _ 0 255) (iv_w i_s0c31 (by decide) (by decide) : iv _ 0 128) (by decide) (by decide) (by decide)
        refine lv_istore_n (lv' := [(1, .int x1), (0, .ref q_this), (2, .int v2c31)]) hx hb dX12_loaves_32 rfl hl (by decide) rfl (fun ls hl => ?_)
        obtain ⟨x2, ex2⟩ : ∃ z : Int32, z = v2c31 + (1 : Int32) := ⟨_, rfl⟩
        refine lv_iinc (v := x2) (lv' := [(2, .int x2), (1, .int x1), (0, .ref q_this)]) hx hb dX12_loaves_33 hl (k := 2) rfl (by rw [ex2]; rfl) (by decide) rfl (fun ls hl => ?_)
        replace hR := uy_Ls ex2 hR
        have i_x2 : iv x2 1 8 := iv_add ex2 i_v2c31 (iv_lit (1 : Int32) (by decide) : iv (1 : Int32) 1 1) (by decide) (by decide) (by decide) (by decide)
        refine lv_goto (tgt := 4) hx hb dX12_loaves_36 (by decide) ?_
        exact ih4 x1 x2 ls i_x1 (iv_w i_x2 (by decide) (by decide)) (ms_up ex2 i_v2c31 (by decide) (by decide) hm4) (uy_Ql hR) (lv_sub hl [2, 1, 0] rfl)
      delta m_Model_loaves_b4 at hR
      refine lv_iload_n hx hb dX12_loaves_4 rfl (lv_at hl 2 rfl) ?_
      refine lv_aload_n hx hb dX12_loaves_5 rfl (lv_at hl 0 rfl) ?_
      refine va_get (D := D) (ci := 11) (v := .ref q_this_told) (C := RX12) (T := TX12) (N := 65) hx hb hts hin_Model hown hK hP 0 rfl rfl 5 (by decide) (hts (.fieldLink RX12 42 "GutterSeatsModel" "told" "[I") (List.mem_cons_of_mem _ (gm12 0 10 (by first | rfl | decide +kernel)))) (fun _ h9 => h9) rfl dX12_loaves_6 ?_
      refine lv_iconst (v := 0) hx hb dX12_loaves_9 (by decide) ?_
      have n3 : vp_in (0 : Int32) 12 := iv_in (iv_lit (0 : Int32) (by decide) : iv (0 : Int32) 0 0) (by decide) (by decide)
      refine va_iald hx hb hK hP 1 0 rfl rfl n3 dX12_loaves_10 ?_
      refine lv_topi (fun x4 ex4 => ?_)
      replace hR := uy_Ls ex4 hR
      have i_x4 : iv x4 0 8 := by rw [ex4]; exact tv.1
      refine lv_icmp_ge (tgt := 39) hx hb dX12_loaves_11 (by decide) (fun c5 => ?_) (fun c5 => ?_)
      ·
        replace hR := uy_Qp c5 hR
        refine lv_iload_n hx hb dX12_loaves_39 rfl (lv_at hl 1 rfl) ?_
        exact hE _ _ _ ((uy_Q0 (uy_Qr hR)).symm.trans hRe) dX12_loaves_40
      ·
        replace hR := uy_Qn c5 hR
        have j6 : iv v2c4 0 7 := iv_ltL (iv_nle c5) i_v2c4 i_x4 (by decide)
        have j7 : iv x4 1 8 := iv_ltR (iv_nle c5) i_v2c4 i_x4 (by decide)
        refine lv_iload_n hx hb dX12_loaves_14 rfl (lv_at hl 1 rfl) ?_
        refine lv_aload_n hx hb dX12_loaves_15 rfl (lv_at hl 0 rfl) ?_
        refine va_get (D := D) (ci := 11) (v := .ref q_this_stone) (C := RX12) (T := TX12) (N := 65) hx hb hts hin_Model hown hK hP 0 rfl rfl 32 (by decide) (hts (.fieldLink RX12 94 "GutterSeatsModel" "stone" "[I") (List.mem_cons_of_mem _ (gm12 0 27 (by first | rfl | decide +kernel)))) (fun _ h9 => h9) rfl dX12_loaves_16 ?_
        refine lv_iload_n hx hb dX12_loaves_19 rfl (lv_at hl 2 rfl) ?_
        have n8 : vp_in v2c4 8 := iv_in j6 (by decide) (by decide)
        refine va_iald hx hb hK hP 2 0 rfl rfl n8 dX12_loaves_20 ?_
        refine lv_topi (fun x9 ex9 => ?_)
        replace hR := uy_Ls ex9 hR
        refine lv_if_ne (tgt := 30) hx hb dX12_loaves_21 (by decide) (fun c10 => ?_) (fun c10 => ?_)
        ·
          replace hR := uy_Qn c10 hR
          refine lv_iconst (v := 0) hx hb dX12_loaves_30 (by decide) ?_
          exact K31 v2c4 (0 : Int32) v1c4 ls j6 (iv_lit (0 : Int32) (by decide) : iv (0 : Int32) 0 128) i_v1c4 hm4 hR (lv_sub hl [0, 2] rfl)
        ·
          replace hR := uy_Qp c10 hR
          have j11 : iv x9 0 0 := by rw [c10]; exact (iv_lit (0 : Int32) (by decide) : iv (0 : Int32) 0 0)
          refine lv_iconst (v := 1) hx hb dX12_loaves_24 (by decide) ?_
          refine lv_iload_n hx hb dX12_loaves_25 rfl (lv_at hl 2 rfl) ?_
          refine lv_ishl hx hb dX12_loaves_26 ?_
          refine lv_topi (fun x12 ex12 => ?_)
          replace hR := uy_Ls ex12 hR
          have i_x12 : iv x12 1 128 := iv_shl1 ex12 j6 (by decide) (by decide) (by decide) (by decide)
          refine lv_goto (tgt := 31) hx hb dX12_loaves_27 (by decide) ?_
          exact K31 v2c4 x12 v1c4 ls j6 (iv_w i_x12 (by decide) (by decide)) i_v1c4 hm4 hR (lv_sub hl [0, 2] rfl)
  delta m_Model_loaves at hR
  refine lv_iconst (v := 0) hx hb dX12_loaves_0 (by decide) ?_
  refine lv_istore_n (lv' := [(1, .int (0 : Int32)), (0, .ref q_this)]) hx hb dX12_loaves_1 rfl hl (by decide) rfl (fun ls hl => ?_)
  refine lv_iconst (v := 0) hx hb dX12_loaves_2 (by decide) ?_
  refine lv_istore_n (lv' := [(2, .int (0 : Int32)), (1, .int (0 : Int32)), (0, .ref q_this)]) hx hb dX12_loaves_3 rfl hl (by decide) rfl (fun ls hl => ?_)
  exact K4 _ (0 : Int32) (0 : Int32) ls (iv_lit (0 : Int32) (by decide) : iv (0 : Int32) 0 255) (iv_lit (0 : Int32) (by decide) : iv (0 : Int32) 0 8) (Nat.lt_succ_self _) hR (lv_sub hl [2, 1, 0] rfl)
abbrev rm_Model_sitting : Room := { frames := 0, cells := 0, slots := 0, locals := 0 }
abbrev wgX12_sitting : List Cond := .code yX12_sitting cX12_sitting 3 (some .int) :: gT12
set_option maxHeartbeats 4000000 in
set_option maxRecDepth 100000 in
theorem c_Model_sitting (l : Launch) (D : va_G) (ct : Nat → ClassId) (q_this q_this_told q_this_seat q_this_sorts q_this_ofWears q_this_ofSits q_this_values q_this_jawTold q_this_browTold q_this_stoneTold q_this_orphan q_this_faceTold q_this_foreheadTold q_this_ageTold q_this_familyTold q_this_rains q_this_signsWears q_this_signsSits q_this_status q_this_tape q_this_jaw q_this_brow q_this_stone q_this_face q_this_forehead q_this_age q_this_family q_this_past q_this_asked q_this_stack q_this_rowThen q_this_leastBy q_this_seenWho q_this_seenIn q_this_seenJaw q_this_rowSeen q_this_fit q_this_seatThen q_this_gains q_this_imageRow q_this_pastThen q_this_seenWhoThen q_this_seenInThen q_this_seenJawThen q_this_statusThen : Nat) (x_this_code x_this_taped x_this_at x_this_size x_this_token x_this_number x_this_begins x_this_stops x_this_bad x_this_badPlace x_this_faultPlace x_this_ofSitting x_this_yearNow x_this_acts x_this_seen x_this_satDown x_this_fitMany x_this_seedNow x_this_hasImage x_this_actsThen x_this_seenThen : Int32) (f_this_told f_this_seat : Nat → Int32) (i_x_this_taped : iv x_this_taped 0 700) (i_x_this_ofSitting : iv x_this_ofSitting 0 1) (i_x_this_yearNow : iv x_this_yearNow 0 5000) (i_x_this_acts : iv x_this_acts 0 40) (i_x_this_seen : iv x_this_seen 0 8) (i_x_this_fitMany : iv x_this_fitMany 0 800) (i_x_this_hasImage : iv x_this_hasImage 0 1) (i_x_this_actsThen : iv x_this_actsThen 0 40) (i_x_this_seenThen : iv x_this_seenThen 0 8) (a_f_this_seat : av f_this_seat 8 (-1) 7) (tv : tv f_this_told) : cP l yX12_sitting wgX12_sitting rm_Model_sitting D ct [(q_this, .inr (11, [.ref q_this_sorts, .ref q_this_ofWears, .ref q_this_ofSits, .ref q_this_values, .int x_this_code, .ref q_this_told, .ref q_this_jawTold, .ref q_this_browTold, .ref q_this_stoneTold, .ref q_this_orphan, .ref q_this_faceTold, .ref q_this_foreheadTold, .ref q_this_ageTold, .ref q_this_familyTold, .ref q_this_rains, .ref q_this_signsWears, .ref q_this_signsSits, .ref q_this_status, .ref q_this_tape, .int x_this_taped, .int x_this_at, .int x_this_size, .int x_this_token, .int x_this_number, .int x_this_begins, .int x_this_stops, .int x_this_bad, .int x_this_badPlace, .int x_this_faultPlace, .int x_this_ofSitting, .ref q_this_jaw, .ref q_this_brow, .ref q_this_stone, .ref q_this_face, .ref q_this_forehead, .ref q_this_age, .ref q_this_family, .ref q_this_seat, .ref q_this_past, .int x_this_yearNow, .int x_this_acts, .int x_this_seen, .ref q_this_asked, .ref q_this_stack, .int x_this_satDown, .ref q_this_rowThen, .ref q_this_leastBy, .ref q_this_seenWho, .ref q_this_seenIn, .ref q_this_seenJaw, .ref q_this_rowSeen, .ref q_this_fit, .ref q_this_seatThen, .int x_this_fitMany, .ref q_this_gains, .int x_this_seedNow, .int x_this_hasImage, .int x_this_actsThen, .int x_this_seenThen, .ref q_this_imageRow, .ref q_this_pastThen, .ref q_this_seenWhoThen, .ref q_this_seenInThen, .ref q_this_seenJawThen, .ref q_this_statusThen])), (q_this_told, .inl (ct 0, 12, .inl f_this_told)), (q_this_seat, .inl (ct 0, 8, .inl f_this_seat))] [.ref q_this] (fun r : Int32 => r = m_Model_sitting f_this_told f_this_seat) := by
  refine cP_of (cc := cX12_sitting) (maxL := 3) (by decide) rfl (Nat.le_of_ble_eq_true rfl) ?_
  intro p e s m args below meth c Q hx hb hml hts hown hK hP hE ls hl
  have hP : va_P D vwCl [(q_this, .inr (11, [.ref q_this_sorts, .ref q_this_ofWears, .ref q_this_ofSits, .ref q_this_values, .int x_this_code, .ref q_this_told, .ref q_this_jawTold, .ref q_this_browTold, .ref q_this_stoneTold, .ref q_this_orphan, .ref q_this_faceTold, .ref q_this_foreheadTold, .ref q_this_ageTold, .ref q_this_familyTold, .ref q_this_rains, .ref q_this_signsWears, .ref q_this_signsSits, .ref q_this_status, .ref q_this_tape, .int x_this_taped, .int x_this_at, .int x_this_size, .int x_this_token, .int x_this_number, .int x_this_begins, .int x_this_stops, .int x_this_bad, .int x_this_badPlace, .int x_this_faultPlace, .int x_this_ofSitting, .ref q_this_jaw, .ref q_this_brow, .ref q_this_stone, .ref q_this_face, .ref q_this_forehead, .ref q_this_age, .ref q_this_family, .ref q_this_seat, .ref q_this_past, .int x_this_yearNow, .int x_this_acts, .int x_this_seen, .ref q_this_asked, .ref q_this_stack, .int x_this_satDown, .ref q_this_rowThen, .ref q_this_leastBy, .ref q_this_seenWho, .ref q_this_seenIn, .ref q_this_seenJaw, .ref q_this_rowSeen, .ref q_this_fit, .ref q_this_seatThen, .int x_this_fitMany, .ref q_this_gains, .int x_this_seedNow, .int x_this_hasImage, .int x_this_actsThen, .int x_this_seenThen, .ref q_this_imageRow, .ref q_this_pastThen, .ref q_this_seenWhoThen, .ref q_this_seenInThen, .ref q_this_seenJawThen, .ref q_this_statusThen])), (q_this_told, .inl (ct 0, 12, .inl f_this_told)), (q_this_seat, .inl (ct 0, 8, .inl f_this_seat))] s.heap := hP
  have mG : ∀ (i : Nat) {w : Cond}, gT12[i]? = some w → w ∈ wgX12_sitting := fun i w h => List.mem_cons_of_mem _ (List.mem_of_getElem? h)
  have hl : lv_has ls 3 [(0, .ref q_this)] := hl
  obtain ⟨R, hRe⟩ : ∃ R : (Int32), R = m_Model_sitting f_this_told f_this_seat := ⟨_, rfl⟩
  have hR : uy_Q R (fun z : (Int32) => z) (m_Model_sitting f_this_told f_this_seat) := hRe
  have hin_Model : ∀ w ∈ u_ws RX12 TX12 65, w ∈ wgX12_sitting := fun w h => List.mem_cons_of_mem _ (ingT12_X12 w h)
  have K4 : ∀ (n4 : Nat) (v1c4 v2c4 : Int32) (ls : Array Slot), iv v1c4 0 255 → iv v2c4 0 8 → (8 - v2c4.toInt).toNat < n4 → uy_Q R (fun z : (Int32) => z) (m_Model_sitting_k4 f_this_told f_this_seat (v1c4, v2c4)) → lv_has ls 3 [(0, .ref q_this), (1, .int v1c4), (2, .int v2c4)] → W p l e rm_Model_sitting s m args below meth c s.heap [] 0 0 Q (F0 m 4 ls []) := by
    intro n4
    induction n4 with
    | zero => intro v1c4 v2c4 ls i_v1c4 i_v2c4 hm4 hR hl; exact absurd hm4 (Nat.not_lt_zero _)
    | succ n4 ih4 =>
      intro v1c4 v2c4 ls i_v1c4 i_v2c4 hm4 hR hl
      replace hR : uy_Q R (uy_E (fun z : (Int32) => z) (m_Model_sitting_k4 f_this_told f_this_seat)) (m_Model_sitting_b4 f_this_told f_this_seat v1c4 v2c4) := uy_whs hR
      have K32 : ∀ (v2c32 s0c32 s1c32 : Int32) (ls : Array Slot), iv v2c32 0 7 → iv s0c32 0 128 → iv s1c32 0 255 → (8 - v2c32.toInt).toNat < n4 + 1 → uy_Q R (uy_E (fun z : (Int32) => z) (m_Model_sitting_k4 f_this_told f_this_seat)) (m_Model_sitting_k32 f_this_told f_this_seat v2c32 s0c32 s1c32) → lv_has ls 3 [(0, .ref q_this), (2, .int v2c32)] → W p l e rm_Model_sitting s m args below meth c s.heap [] 0 0 Q (F0 m 32 ls [.int s0c32, .int s1c32]) := by
        intro v2c32 s0c32 s1c32 ls i_v2c32 i_s0c32 i_s1c32 hm4 hR hl
        delta m_Model_sitting_k32 at hR
        refine lv_ior hx hb dX12_sitting_32 ?_
        refine lv_topi (fun x1 ex1 => ?_)
        replace hR := uy_Ls ex1 hR
        have i_x1 : iv x1 0 255 := iv_or 8 ex1 (iv_w i_s1c32 (by decide) (by decide) : iv _ 0 255) (iv_w i_s0c32 (by decide) (by decide) : iv _ 0 128) (by decide) (by decide) (by decide)
        refine lv_istore_n (lv' := [(1, .int x1), (0, .ref q_this), (2, .int v2c32)]) hx hb dX12_sitting_33 rfl hl (by decide) rfl (fun ls hl => ?_)
        obtain ⟨x2, ex2⟩ : ∃ z : Int32, z = v2c32 + (1 : Int32) := ⟨_, rfl⟩
        refine lv_iinc (v := x2) (lv' := [(2, .int x2), (1, .int x1), (0, .ref q_this)]) hx hb dX12_sitting_34 hl (k := 2) rfl (by rw [ex2]; rfl) (by decide) rfl (fun ls hl => ?_)
        replace hR := uy_Ls ex2 hR
        have i_x2 : iv x2 1 8 := iv_add ex2 i_v2c32 (iv_lit (1 : Int32) (by decide) : iv (1 : Int32) 1 1) (by decide) (by decide) (by decide) (by decide)
        refine lv_goto (tgt := 4) hx hb dX12_sitting_37 (by decide) ?_
        exact ih4 x1 x2 ls i_x1 (iv_w i_x2 (by decide) (by decide)) (ms_up ex2 i_v2c32 (by decide) (by decide) hm4) (uy_Ql hR) (lv_sub hl [2, 1, 0] rfl)
      delta m_Model_sitting_b4 at hR
      refine lv_iload_n hx hb dX12_sitting_4 rfl (lv_at hl 2 rfl) ?_
      refine lv_aload_n hx hb dX12_sitting_5 rfl (lv_at hl 0 rfl) ?_
      refine va_get (D := D) (ci := 11) (v := .ref q_this_told) (C := RX12) (T := TX12) (N := 65) hx hb hts hin_Model hown hK hP 0 rfl rfl 5 (by decide) (hts (.fieldLink RX12 42 "GutterSeatsModel" "told" "[I") (List.mem_cons_of_mem _ (gm12 0 10 (by first | rfl | decide +kernel)))) (fun _ h9 => h9) rfl dX12_sitting_6 ?_
      refine lv_iconst (v := 1) hx hb dX12_sitting_9 (by decide) ?_
      have n3 : vp_in (1 : Int32) 12 := iv_in (iv_lit (1 : Int32) (by decide) : iv (1 : Int32) 1 1) (by decide) (by decide)
      refine va_iald hx hb hK hP 1 0 rfl rfl n3 dX12_sitting_10 ?_
      refine lv_topi (fun x4 ex4 => ?_)
      replace hR := uy_Ls ex4 hR
      have i_x4 : iv x4 0 8 := by rw [ex4]; exact tv.2.1
      refine lv_icmp_ge (tgt := 40) hx hb dX12_sitting_11 (by decide) (fun c5 => ?_) (fun c5 => ?_)
      ·
        replace hR := uy_Qp c5 hR
        refine lv_iload_n hx hb dX12_sitting_40 rfl (lv_at hl 1 rfl) ?_
        exact hE _ _ _ ((uy_Q0 (uy_Qr hR)).symm.trans hRe) dX12_sitting_41
      ·
        replace hR := uy_Qn c5 hR
        have j6 : iv v2c4 0 7 := iv_ltL (iv_nle c5) i_v2c4 i_x4 (by decide)
        have j7 : iv x4 1 8 := iv_ltR (iv_nle c5) i_v2c4 i_x4 (by decide)
        refine lv_iload_n hx hb dX12_sitting_14 rfl (lv_at hl 1 rfl) ?_
        refine lv_aload_n hx hb dX12_sitting_15 rfl (lv_at hl 0 rfl) ?_
        refine va_get (D := D) (ci := 11) (v := .ref q_this_seat) (C := RX12) (T := TX12) (N := 65) hx hb hts hin_Model hown hK hP 0 rfl rfl 37 (by decide) (hts (.fieldLink RX12 106 "GutterSeatsModel" "seat" "[I") (List.mem_cons_of_mem _ (gm12 0 32 (by first | rfl | decide +kernel)))) (fun _ h9 => h9) rfl dX12_sitting_16 ?_
        refine lv_iload_n hx hb dX12_sitting_19 rfl (lv_at hl 2 rfl) ?_
        have n8 : vp_in v2c4 8 := iv_in j6 (by decide) (by decide)
        refine va_iald hx hb hK hP 2 0 rfl rfl n8 dX12_sitting_20 ?_
        refine lv_topi (fun x9 ex9 => ?_)
        replace hR := uy_Ls ex9 hR
        have i_x9 : iv x9 (-1) 7 := by rw [ex9]; exact av_get a_f_this_seat n8
        refine lv_iconst (v := -1) hx hb dX12_sitting_21 (by decide) ?_
        refine lv_icmp_eq (tgt := 31) hx hb dX12_sitting_22 (by decide) (fun c10 => ?_) (fun c10 => ?_)
        ·
          replace hR := uy_Qp c10 hR
          have j11 : iv x9 (-1) (-1) := by rw [c10]; exact (iv_lit (-1 : Int32) (by decide) : iv (-1 : Int32) (-1) (-1))
          refine lv_iconst (v := 0) hx hb dX12_sitting_31 (by decide) ?_
          exact K32 v2c4 (0 : Int32) v1c4 ls j6 (iv_lit (0 : Int32) (by decide) : iv (0 : Int32) 0 128) i_v1c4 hm4 hR (lv_sub hl [0, 2] rfl)
        ·
          replace hR := uy_Qn c10 hR
          have j12 : iv x9 0 7 := iv_neL c10 i_x9 rfl (by decide)
          refine lv_iconst (v := 1) hx hb dX12_sitting_25 (by decide) ?_
          refine lv_iload_n hx hb dX12_sitting_26 rfl (lv_at hl 2 rfl) ?_
          refine lv_ishl hx hb dX12_sitting_27 ?_
          refine lv_topi (fun x13 ex13 => ?_)
          replace hR := uy_Ls ex13 hR
          have i_x13 : iv x13 1 128 := iv_shl1 ex13 j6 (by decide) (by decide) (by decide) (by decide)
          refine lv_goto (tgt := 32) hx hb dX12_sitting_28 (by decide) ?_
          exact K32 v2c4 x13 v1c4 ls j6 (iv_w i_x13 (by decide) (by decide)) i_v1c4 hm4 hR (lv_sub hl [0, 2] rfl)
  delta m_Model_sitting at hR
  refine lv_iconst (v := 0) hx hb dX12_sitting_0 (by decide) ?_
  refine lv_istore_n (lv' := [(1, .int (0 : Int32)), (0, .ref q_this)]) hx hb dX12_sitting_1 rfl hl (by decide) rfl (fun ls hl => ?_)
  refine lv_iconst (v := 0) hx hb dX12_sitting_2 (by decide) ?_
  refine lv_istore_n (lv' := [(2, .int (0 : Int32)), (1, .int (0 : Int32)), (0, .ref q_this)]) hx hb dX12_sitting_3 rfl hl (by decide) rfl (fun ls hl => ?_)
  exact K4 _ (0 : Int32) (0 : Int32) ls (iv_lit (0 : Int32) (by decide) : iv (0 : Int32) 0 255) (iv_lit (0 : Int32) (by decide) : iv (0 : Int32) 0 8) (Nat.lt_succ_self _) hR (lv_sub hl [2, 1, 0] rfl)
abbrev rm_Model_allStone : Room := { frames := 0, cells := 0, slots := 0, locals := 0 }
abbrev wgX12_allStone : List Cond := .code yX12_allStone cX12_allStone 3 (some .int) :: gT12
set_option maxHeartbeats 4000000 in
set_option maxRecDepth 100000 in
theorem c_Model_allStone (l : Launch) (D : va_G) (ct : Nat → ClassId) (q_this q_this_told q_this_stone q_this_sorts q_this_ofWears q_this_ofSits q_this_values q_this_jawTold q_this_browTold q_this_stoneTold q_this_orphan q_this_faceTold q_this_foreheadTold q_this_ageTold q_this_familyTold q_this_rains q_this_signsWears q_this_signsSits q_this_status q_this_tape q_this_jaw q_this_brow q_this_face q_this_forehead q_this_age q_this_family q_this_seat q_this_past q_this_asked q_this_stack q_this_rowThen q_this_leastBy q_this_seenWho q_this_seenIn q_this_seenJaw q_this_rowSeen q_this_fit q_this_seatThen q_this_gains q_this_imageRow q_this_pastThen q_this_seenWhoThen q_this_seenInThen q_this_seenJawThen q_this_statusThen : Nat) (x_this_code x_this_taped x_this_at x_this_size x_this_token x_this_number x_this_begins x_this_stops x_this_bad x_this_badPlace x_this_faultPlace x_this_ofSitting x_this_yearNow x_this_acts x_this_seen x_this_satDown x_this_fitMany x_this_seedNow x_this_hasImage x_this_actsThen x_this_seenThen : Int32) (f_this_told f_this_stone : Nat → Int32) (i_x_this_taped : iv x_this_taped 0 700) (i_x_this_ofSitting : iv x_this_ofSitting 0 1) (i_x_this_yearNow : iv x_this_yearNow 0 5000) (i_x_this_acts : iv x_this_acts 0 40) (i_x_this_seen : iv x_this_seen 0 8) (i_x_this_fitMany : iv x_this_fitMany 0 800) (i_x_this_hasImage : iv x_this_hasImage 0 1) (i_x_this_actsThen : iv x_this_actsThen 0 40) (i_x_this_seenThen : iv x_this_seenThen 0 8) (tv : tv f_this_told) : cP l yX12_allStone wgX12_allStone rm_Model_allStone D ct [(q_this, .inr (11, [.ref q_this_sorts, .ref q_this_ofWears, .ref q_this_ofSits, .ref q_this_values, .int x_this_code, .ref q_this_told, .ref q_this_jawTold, .ref q_this_browTold, .ref q_this_stoneTold, .ref q_this_orphan, .ref q_this_faceTold, .ref q_this_foreheadTold, .ref q_this_ageTold, .ref q_this_familyTold, .ref q_this_rains, .ref q_this_signsWears, .ref q_this_signsSits, .ref q_this_status, .ref q_this_tape, .int x_this_taped, .int x_this_at, .int x_this_size, .int x_this_token, .int x_this_number, .int x_this_begins, .int x_this_stops, .int x_this_bad, .int x_this_badPlace, .int x_this_faultPlace, .int x_this_ofSitting, .ref q_this_jaw, .ref q_this_brow, .ref q_this_stone, .ref q_this_face, .ref q_this_forehead, .ref q_this_age, .ref q_this_family, .ref q_this_seat, .ref q_this_past, .int x_this_yearNow, .int x_this_acts, .int x_this_seen, .ref q_this_asked, .ref q_this_stack, .int x_this_satDown, .ref q_this_rowThen, .ref q_this_leastBy, .ref q_this_seenWho, .ref q_this_seenIn, .ref q_this_seenJaw, .ref q_this_rowSeen, .ref q_this_fit, .ref q_this_seatThen, .int x_this_fitMany, .ref q_this_gains, .int x_this_seedNow, .int x_this_hasImage, .int x_this_actsThen, .int x_this_seenThen, .ref q_this_imageRow, .ref q_this_pastThen, .ref q_this_seenWhoThen, .ref q_this_seenInThen, .ref q_this_seenJawThen, .ref q_this_statusThen])), (q_this_told, .inl (ct 0, 12, .inl f_this_told)), (q_this_stone, .inl (ct 0, 8, .inl f_this_stone))] [.ref q_this] (fun r : Int32 => r = m_Model_allStone f_this_told f_this_stone) := by
  refine cP_of (cc := cX12_allStone) (maxL := 3) (by decide) rfl (Nat.le_of_ble_eq_true rfl) ?_
  intro p e s m args below meth c Q hx hb hml hts hown hK hP hE ls hl
  have hP : va_P D vwCl [(q_this, .inr (11, [.ref q_this_sorts, .ref q_this_ofWears, .ref q_this_ofSits, .ref q_this_values, .int x_this_code, .ref q_this_told, .ref q_this_jawTold, .ref q_this_browTold, .ref q_this_stoneTold, .ref q_this_orphan, .ref q_this_faceTold, .ref q_this_foreheadTold, .ref q_this_ageTold, .ref q_this_familyTold, .ref q_this_rains, .ref q_this_signsWears, .ref q_this_signsSits, .ref q_this_status, .ref q_this_tape, .int x_this_taped, .int x_this_at, .int x_this_size, .int x_this_token, .int x_this_number, .int x_this_begins, .int x_this_stops, .int x_this_bad, .int x_this_badPlace, .int x_this_faultPlace, .int x_this_ofSitting, .ref q_this_jaw, .ref q_this_brow, .ref q_this_stone, .ref q_this_face, .ref q_this_forehead, .ref q_this_age, .ref q_this_family, .ref q_this_seat, .ref q_this_past, .int x_this_yearNow, .int x_this_acts, .int x_this_seen, .ref q_this_asked, .ref q_this_stack, .int x_this_satDown, .ref q_this_rowThen, .ref q_this_leastBy, .ref q_this_seenWho, .ref q_this_seenIn, .ref q_this_seenJaw, .ref q_this_rowSeen, .ref q_this_fit, .ref q_this_seatThen, .int x_this_fitMany, .ref q_this_gains, .int x_this_seedNow, .int x_this_hasImage, .int x_this_actsThen, .int x_this_seenThen, .ref q_this_imageRow, .ref q_this_pastThen, .ref q_this_seenWhoThen, .ref q_this_seenInThen, .ref q_this_seenJawThen, .ref q_this_statusThen])), (q_this_told, .inl (ct 0, 12, .inl f_this_told)), (q_this_stone, .inl (ct 0, 8, .inl f_this_stone))] s.heap := hP
  have mG : ∀ (i : Nat) {w : Cond}, gT12[i]? = some w → w ∈ wgX12_allStone := fun i w h => List.mem_cons_of_mem _ (List.mem_of_getElem? h)
  have hl : lv_has ls 3 [(0, .ref q_this)] := hl
  obtain ⟨R, hRe⟩ : ∃ R : (Int32), R = m_Model_allStone f_this_told f_this_stone := ⟨_, rfl⟩
  have hR : uy_Q R (fun z : (Int32) => z) (m_Model_allStone f_this_told f_this_stone) := hRe
  have hin_Model : ∀ w ∈ u_ws RX12 TX12 65, w ∈ wgX12_allStone := fun w h => List.mem_cons_of_mem _ (ingT12_X12 w h)
  have K4 : ∀ (n4 : Nat) (v1c4 v2c4 : Int32) (ls : Array Slot), iv v2c4 0 8 → (8 - v2c4.toInt).toNat < n4 → uy_Q R (fun z : (Int32) => z) (m_Model_allStone_k4 f_this_told f_this_stone (v1c4, v2c4)) → lv_has ls 3 [(0, .ref q_this), (1, .int v1c4), (2, .int v2c4)] → W p l e rm_Model_allStone s m args below meth c s.heap [] 0 0 Q (F0 m 4 ls []) := by
    intro n4
    induction n4 with
    | zero => intro v1c4 v2c4 ls i_v2c4 hm4 hR hl; exact absurd hm4 (Nat.not_lt_zero _)
    | succ n4 ih4 =>
      intro v1c4 v2c4 ls i_v2c4 hm4 hR hl
      replace hR : uy_Q R (uy_E (fun z : (Int32) => z) (m_Model_allStone_k4 f_this_told f_this_stone)) (m_Model_allStone_b4 f_this_told f_this_stone v1c4 v2c4) := uy_whs hR
      delta m_Model_allStone_b4 at hR
      refine lv_iload_n hx hb dX12_allStone_4 rfl (lv_at hl 2 rfl) ?_
      refine lv_aload_n hx hb dX12_allStone_5 rfl (lv_at hl 0 rfl) ?_
      refine va_get (D := D) (ci := 11) (v := .ref q_this_told) (C := RX12) (T := TX12) (N := 65) hx hb hts hin_Model hown hK hP 0 rfl rfl 5 (by decide) (hts (.fieldLink RX12 42 "GutterSeatsModel" "told" "[I") (List.mem_cons_of_mem _ (gm12 0 10 (by first | rfl | decide +kernel)))) (fun _ h9 => h9) rfl dX12_allStone_6 ?_
      refine lv_iconst (v := 0) hx hb dX12_allStone_9 (by decide) ?_
      have n1 : vp_in (0 : Int32) 12 := iv_in (iv_lit (0 : Int32) (by decide) : iv (0 : Int32) 0 0) (by decide) (by decide)
      refine va_iald hx hb hK hP 1 0 rfl rfl n1 dX12_allStone_10 ?_
      refine lv_topi (fun x2 ex2 => ?_)
      replace hR := uy_Ls ex2 hR
      have i_x2 : iv x2 0 8 := by rw [ex2]; exact tv.1
      refine lv_icmp_ge (tgt := 29) hx hb dX12_allStone_11 (by decide) (fun c3 => ?_) (fun c3 => ?_)
      ·
        replace hR := uy_Qp c3 hR
        refine lv_iload_n hx hb dX12_allStone_29 rfl (lv_at hl 1 rfl) ?_
        exact hE _ _ _ ((uy_Q0 (uy_Qr hR)).symm.trans hRe) dX12_allStone_30
      ·
        replace hR := uy_Qn c3 hR
        have j4 : iv v2c4 0 7 := iv_ltL (iv_nle c3) i_v2c4 i_x2 (by decide)
        have j5 : iv x2 1 8 := iv_ltR (iv_nle c3) i_v2c4 i_x2 (by decide)
        refine lv_iload_n hx hb dX12_allStone_14 rfl (lv_at hl 1 rfl) ?_
        refine lv_aload_n hx hb dX12_allStone_15 rfl (lv_at hl 0 rfl) ?_
        refine va_get (D := D) (ci := 11) (v := .ref q_this_stone) (C := RX12) (T := TX12) (N := 65) hx hb hts hin_Model hown hK hP 0 rfl rfl 32 (by decide) (hts (.fieldLink RX12 94 "GutterSeatsModel" "stone" "[I") (List.mem_cons_of_mem _ (gm12 0 27 (by first | rfl | decide +kernel)))) (fun _ h9 => h9) rfl dX12_allStone_16 ?_
        refine lv_iload_n hx hb dX12_allStone_19 rfl (lv_at hl 2 rfl) ?_
        have n6 : vp_in v2c4 8 := iv_in j4 (by decide) (by decide)
        refine va_iald hx hb hK hP 2 0 rfl rfl n6 dX12_allStone_20 ?_
        refine lv_topi (fun x7 ex7 => ?_)
        replace hR := uy_Ls ex7 hR
        refine lv_iadd hx hb dX12_allStone_21 ?_
        refine lv_topi (fun x8 ex8 => ?_)
        replace hR := uy_Ls ex8 hR
        refine lv_istore_n (lv' := [(1, .int x8), (0, .ref q_this), (2, .int v2c4)]) hx hb dX12_allStone_22 rfl hl (by decide) rfl (fun ls hl => ?_)
        obtain ⟨x9, ex9⟩ : ∃ z : Int32, z = v2c4 + (1 : Int32) := ⟨_, rfl⟩
        refine lv_iinc (v := x9) (lv' := [(2, .int x9), (1, .int x8), (0, .ref q_this)]) hx hb dX12_allStone_23 hl (k := 2) rfl (by rw [ex9]; rfl) (by decide) rfl (fun ls hl => ?_)
        replace hR := uy_Ls ex9 hR
        have i_x9 : iv x9 1 8 := iv_add ex9 j4 (iv_lit (1 : Int32) (by decide) : iv (1 : Int32) 1 1) (by decide) (by decide) (by decide) (by decide)
        refine lv_goto (tgt := 4) hx hb dX12_allStone_26 (by decide) ?_
        exact ih4 x8 x9 ls (iv_w i_x9 (by decide) (by decide)) (ms_up ex9 j4 (by decide) (by decide) hm4) (uy_Ql hR) (lv_sub hl [2, 1, 0] rfl)
  delta m_Model_allStone at hR
  refine lv_iconst (v := 0) hx hb dX12_allStone_0 (by decide) ?_
  refine lv_istore_n (lv' := [(1, .int (0 : Int32)), (0, .ref q_this)]) hx hb dX12_allStone_1 rfl hl (by decide) rfl (fun ls hl => ?_)
  refine lv_iconst (v := 0) hx hb dX12_allStone_2 (by decide) ?_
  refine lv_istore_n (lv' := [(2, .int (0 : Int32)), (1, .int (0 : Int32)), (0, .ref q_this)]) hx hb dX12_allStone_3 rfl hl (by decide) rfl (fun ls hl => ?_)
  exact K4 _ (0 : Int32) (0 : Int32) ls (iv_lit (0 : Int32) (by decide) : iv (0 : Int32) 0 8) (Nat.lt_succ_self _) hR (lv_sub hl [2, 1, 0] rfl)
abbrev rm_Model_familyOf : Room := { frames := 0, cells := 0, slots := 0, locals := 0 }
abbrev wgX12_familyOf : List Cond := .code yX12_familyOf cX12_familyOf 4 (some .int) :: gT12
set_option maxHeartbeats 4000000 in
set_option maxRecDepth 100000 in
theorem c_Model_familyOf (l : Launch) (D : va_G) (ct : Nat → ClassId) (q_this q_this_told q_this_family q_this_sorts q_this_ofWears q_this_ofSits q_this_values q_this_jawTold q_this_browTold q_this_stoneTold q_this_orphan q_this_faceTold q_this_foreheadTold q_this_ageTold q_this_familyTold q_this_rains q_this_signsWears q_this_signsSits q_this_status q_this_tape q_this_jaw q_this_brow q_this_stone q_this_face q_this_forehead q_this_age q_this_seat q_this_past q_this_asked q_this_stack q_this_rowThen q_this_leastBy q_this_seenWho q_this_seenIn q_this_seenJaw q_this_rowSeen q_this_fit q_this_seatThen q_this_gains q_this_imageRow q_this_pastThen q_this_seenWhoThen q_this_seenInThen q_this_seenJawThen q_this_statusThen : Nat) (x_this_code x_this_taped x_this_at x_this_size x_this_token x_this_number x_this_begins x_this_stops x_this_bad x_this_badPlace x_this_faultPlace x_this_ofSitting x_this_yearNow x_this_acts x_this_seen x_this_satDown x_this_fitMany x_this_seedNow x_this_hasImage x_this_actsThen x_this_seenThen : Int32) (f_this_told f_this_family : Nat → Int32) (p1 : Int32) (i_x_this_taped : iv x_this_taped 0 700) (i_x_this_ofSitting : iv x_this_ofSitting 0 1) (i_x_this_yearNow : iv x_this_yearNow 0 5000) (i_x_this_acts : iv x_this_acts 0 40) (i_x_this_seen : iv x_this_seen 0 8) (i_x_this_fitMany : iv x_this_fitMany 0 800) (i_x_this_hasImage : iv x_this_hasImage 0 1) (i_x_this_actsThen : iv x_this_actsThen 0 40) (i_x_this_seenThen : iv x_this_seenThen 0 8) (a_f_this_family : av f_this_family 8 (-1) 7) (tv : tv f_this_told) : cP l yX12_familyOf wgX12_familyOf rm_Model_familyOf D ct [(q_this, .inr (11, [.ref q_this_sorts, .ref q_this_ofWears, .ref q_this_ofSits, .ref q_this_values, .int x_this_code, .ref q_this_told, .ref q_this_jawTold, .ref q_this_browTold, .ref q_this_stoneTold, .ref q_this_orphan, .ref q_this_faceTold, .ref q_this_foreheadTold, .ref q_this_ageTold, .ref q_this_familyTold, .ref q_this_rains, .ref q_this_signsWears, .ref q_this_signsSits, .ref q_this_status, .ref q_this_tape, .int x_this_taped, .int x_this_at, .int x_this_size, .int x_this_token, .int x_this_number, .int x_this_begins, .int x_this_stops, .int x_this_bad, .int x_this_badPlace, .int x_this_faultPlace, .int x_this_ofSitting, .ref q_this_jaw, .ref q_this_brow, .ref q_this_stone, .ref q_this_face, .ref q_this_forehead, .ref q_this_age, .ref q_this_family, .ref q_this_seat, .ref q_this_past, .int x_this_yearNow, .int x_this_acts, .int x_this_seen, .ref q_this_asked, .ref q_this_stack, .int x_this_satDown, .ref q_this_rowThen, .ref q_this_leastBy, .ref q_this_seenWho, .ref q_this_seenIn, .ref q_this_seenJaw, .ref q_this_rowSeen, .ref q_this_fit, .ref q_this_seatThen, .int x_this_fitMany, .ref q_this_gains, .int x_this_seedNow, .int x_this_hasImage, .int x_this_actsThen, .int x_this_seenThen, .ref q_this_imageRow, .ref q_this_pastThen, .ref q_this_seenWhoThen, .ref q_this_seenInThen, .ref q_this_seenJawThen, .ref q_this_statusThen])), (q_this_told, .inl (ct 0, 12, .inl f_this_told)), (q_this_family, .inl (ct 0, 8, .inl f_this_family))] [.ref q_this, .int p1] (fun r : Int32 => r = m_Model_familyOf f_this_told f_this_family p1) := by
  refine cP_of (cc := cX12_familyOf) (maxL := 4) (by decide) rfl (Nat.le_of_ble_eq_true rfl) ?_
  intro p e s m args below meth c Q hx hb hml hts hown hK hP hE ls hl
  have hP : va_P D vwCl [(q_this, .inr (11, [.ref q_this_sorts, .ref q_this_ofWears, .ref q_this_ofSits, .ref q_this_values, .int x_this_code, .ref q_this_told, .ref q_this_jawTold, .ref q_this_browTold, .ref q_this_stoneTold, .ref q_this_orphan, .ref q_this_faceTold, .ref q_this_foreheadTold, .ref q_this_ageTold, .ref q_this_familyTold, .ref q_this_rains, .ref q_this_signsWears, .ref q_this_signsSits, .ref q_this_status, .ref q_this_tape, .int x_this_taped, .int x_this_at, .int x_this_size, .int x_this_token, .int x_this_number, .int x_this_begins, .int x_this_stops, .int x_this_bad, .int x_this_badPlace, .int x_this_faultPlace, .int x_this_ofSitting, .ref q_this_jaw, .ref q_this_brow, .ref q_this_stone, .ref q_this_face, .ref q_this_forehead, .ref q_this_age, .ref q_this_family, .ref q_this_seat, .ref q_this_past, .int x_this_yearNow, .int x_this_acts, .int x_this_seen, .ref q_this_asked, .ref q_this_stack, .int x_this_satDown, .ref q_this_rowThen, .ref q_this_leastBy, .ref q_this_seenWho, .ref q_this_seenIn, .ref q_this_seenJaw, .ref q_this_rowSeen, .ref q_this_fit, .ref q_this_seatThen, .int x_this_fitMany, .ref q_this_gains, .int x_this_seedNow, .int x_this_hasImage, .int x_this_actsThen, .int x_this_seenThen, .ref q_this_imageRow, .ref q_this_pastThen, .ref q_this_seenWhoThen, .ref q_this_seenInThen, .ref q_this_seenJawThen, .ref q_this_statusThen])), (q_this_told, .inl (ct 0, 12, .inl f_this_told)), (q_this_family, .inl (ct 0, 8, .inl f_this_family))] s.heap := hP
  have mG : ∀ (i : Nat) {w : Cond}, gT12[i]? = some w → w ∈ wgX12_familyOf := fun i w h => List.mem_cons_of_mem _ (List.mem_of_getElem? h)
  have hl : lv_has ls 4 [(0, .ref q_this), (1, .int p1)] := hl
  obtain ⟨R, hRe⟩ : ∃ R : (Int32), R = m_Model_familyOf f_this_told f_this_family p1 := ⟨_, rfl⟩
  have hR : uy_Q R (fun z : (Int32) => z) (m_Model_familyOf f_this_told f_this_family p1) := hRe
  have hin_Model : ∀ w ∈ u_ws RX12 TX12 65, w ∈ wgX12_familyOf := fun w h => List.mem_cons_of_mem _ (ingT12_X12 w h)
  have K4 : ∀ (n4 : Nat) (v2c4 v3c4 : Int32) (ls : Array Slot), iv v2c4 0 255 → iv v3c4 0 8 → (8 - v3c4.toInt).toNat < n4 → uy_Q R (fun z : (Int32) => z) (m_Model_familyOf_k4 f_this_told f_this_family p1 (v2c4, v3c4)) → lv_has ls 4 [(0, .ref q_this), (1, .int p1), (2, .int v2c4), (3, .int v3c4)] → W p l e rm_Model_familyOf s m args below meth c s.heap [] 0 0 Q (F0 m 4 ls []) := by
    intro n4
    induction n4 with
    | zero => intro v2c4 v3c4 ls i_v2c4 i_v3c4 hm4 hR hl; exact absurd hm4 (Nat.not_lt_zero _)
    | succ n4 ih4 =>
      intro v2c4 v3c4 ls i_v2c4 i_v3c4 hm4 hR hl
      replace hR : uy_Q R (uy_E (fun z : (Int32) => z) (m_Model_familyOf_k4 f_this_told f_this_family p1)) (m_Model_familyOf_b4 f_this_told f_this_family p1 v2c4 v3c4) := uy_whs hR
      have K32 : ∀ (v3c32 s0c32 s1c32 : Int32) (ls : Array Slot), iv v3c32 0 7 → iv s0c32 0 128 → iv s1c32 0 255 → (8 - v3c32.toInt).toNat < n4 + 1 → uy_Q R (uy_E (fun z : (Int32) => z) (m_Model_familyOf_k4 f_this_told f_this_family p1)) (m_Model_familyOf_k32 f_this_told f_this_family p1 v3c32 s0c32 s1c32) → lv_has ls 4 [(0, .ref q_this), (1, .int p1), (3, .int v3c32)] → W p l e rm_Model_familyOf s m args below meth c s.heap [] 0 0 Q (F0 m 32 ls [.int s0c32, .int s1c32]) := by
        intro v3c32 s0c32 s1c32 ls i_v3c32 i_s0c32 i_s1c32 hm4 hR hl
        delta m_Model_familyOf_k32 at hR
        refine lv_ior hx hb dX12_familyOf_32 ?_
        refine lv_topi (fun x1 ex1 => ?_)
        replace hR := uy_Ls ex1 hR
        have i_x1 : iv x1 0 255 := iv_or 8 ex1 (iv_w i_s1c32 (by decide) (by decide) : iv _ 0 255) (iv_w i_s0c32 (by decide) (by decide) : iv _ 0 128) (by decide) (by decide) (by decide)
        refine lv_istore_n (lv' := [(2, .int x1), (0, .ref q_this), (1, .int p1), (3, .int v3c32)]) hx hb dX12_familyOf_33 rfl hl (by decide) rfl (fun ls hl => ?_)
        obtain ⟨x2, ex2⟩ : ∃ z : Int32, z = v3c32 + (1 : Int32) := ⟨_, rfl⟩
        refine lv_iinc (v := x2) (lv' := [(3, .int x2), (2, .int x1), (0, .ref q_this), (1, .int p1)]) hx hb dX12_familyOf_34 hl (k := 3) rfl (by rw [ex2]; rfl) (by decide) rfl (fun ls hl => ?_)
        replace hR := uy_Ls ex2 hR
        have i_x2 : iv x2 1 8 := iv_add ex2 i_v3c32 (iv_lit (1 : Int32) (by decide) : iv (1 : Int32) 1 1) (by decide) (by decide) (by decide) (by decide)
        refine lv_goto (tgt := 4) hx hb dX12_familyOf_37 (by decide) ?_
        exact ih4 x1 x2 ls i_x1 (iv_w i_x2 (by decide) (by decide)) (ms_up ex2 i_v3c32 (by decide) (by decide) hm4) (uy_Ql hR) (lv_sub hl [2, 3, 1, 0] rfl)
      delta m_Model_familyOf_b4 at hR
      refine lv_iload_n hx hb dX12_familyOf_4 rfl (lv_at hl 3 rfl) ?_
      refine lv_aload_n hx hb dX12_familyOf_5 rfl (lv_at hl 0 rfl) ?_
      refine va_get (D := D) (ci := 11) (v := .ref q_this_told) (C := RX12) (T := TX12) (N := 65) hx hb hts hin_Model hown hK hP 0 rfl rfl 5 (by decide) (hts (.fieldLink RX12 42 "GutterSeatsModel" "told" "[I") (List.mem_cons_of_mem _ (gm12 0 10 (by first | rfl | decide +kernel)))) (fun _ h9 => h9) rfl dX12_familyOf_6 ?_
      refine lv_iconst (v := 1) hx hb dX12_familyOf_9 (by decide) ?_
      have n3 : vp_in (1 : Int32) 12 := iv_in (iv_lit (1 : Int32) (by decide) : iv (1 : Int32) 1 1) (by decide) (by decide)
      refine va_iald hx hb hK hP 1 0 rfl rfl n3 dX12_familyOf_10 ?_
      refine lv_topi (fun x4 ex4 => ?_)
      replace hR := uy_Ls ex4 hR
      have i_x4 : iv x4 0 8 := by rw [ex4]; exact tv.2.1
      refine lv_icmp_ge (tgt := 40) hx hb dX12_familyOf_11 (by decide) (fun c5 => ?_) (fun c5 => ?_)
      ·
        replace hR := uy_Qp c5 hR
        refine lv_iload_n hx hb dX12_familyOf_40 rfl (lv_at hl 2 rfl) ?_
        exact hE _ _ _ ((uy_Q0 (uy_Qr hR)).symm.trans hRe) dX12_familyOf_41
      ·
        replace hR := uy_Qn c5 hR
        have j6 : iv v3c4 0 7 := iv_ltL (iv_nle c5) i_v3c4 i_x4 (by decide)
        have j7 : iv x4 1 8 := iv_ltR (iv_nle c5) i_v3c4 i_x4 (by decide)
        refine lv_iload_n hx hb dX12_familyOf_14 rfl (lv_at hl 2 rfl) ?_
        refine lv_aload_n hx hb dX12_familyOf_15 rfl (lv_at hl 0 rfl) ?_
        refine va_get (D := D) (ci := 11) (v := .ref q_this_family) (C := RX12) (T := TX12) (N := 65) hx hb hts hin_Model hown hK hP 0 rfl rfl 36 (by decide) (hts (.fieldLink RX12 104 "GutterSeatsModel" "family" "[I") (List.mem_cons_of_mem _ (gm12 0 31 (by first | rfl | decide +kernel)))) (fun _ h9 => h9) rfl dX12_familyOf_16 ?_
        refine lv_iload_n hx hb dX12_familyOf_19 rfl (lv_at hl 3 rfl) ?_
        have n8 : vp_in v3c4 8 := iv_in j6 (by decide) (by decide)
        refine va_iald hx hb hK hP 2 0 rfl rfl n8 dX12_familyOf_20 ?_
        refine lv_topi (fun x9 ex9 => ?_)
        replace hR := uy_Ls ex9 hR
        have i_x9 : iv x9 (-1) 7 := by rw [ex9]; exact av_get a_f_this_family n8
        refine lv_iload_n hx hb dX12_familyOf_21 rfl (lv_at hl 1 rfl) ?_
        refine lv_icmp_ne (tgt := 31) hx hb dX12_familyOf_22 (by decide) (fun c10 => ?_) (fun c10 => ?_)
        ·
          replace hR := uy_Qn c10 hR
          refine lv_iconst (v := 0) hx hb dX12_familyOf_31 (by decide) ?_
          exact K32 v3c4 (0 : Int32) v2c4 ls j6 (iv_lit (0 : Int32) (by decide) : iv (0 : Int32) 0 128) i_v2c4 hm4 hR (lv_sub hl [0, 1, 3] rfl)
        ·
          replace hR := uy_Qp c10 hR
          have j11 : iv p1 (-1) 7 := by rw [← c10]; exact i_x9
          refine lv_iconst (v := 1) hx hb dX12_familyOf_25 (by decide) ?_
          refine lv_iload_n hx hb dX12_familyOf_26 rfl (lv_at hl 3 rfl) ?_
          refine lv_ishl hx hb dX12_familyOf_27 ?_
          refine lv_topi (fun x12 ex12 => ?_)
          replace hR := uy_Ls ex12 hR
          have i_x12 : iv x12 1 128 := iv_shl1 ex12 j6 (by decide) (by decide) (by decide) (by decide)
          refine lv_goto (tgt := 32) hx hb dX12_familyOf_28 (by decide) ?_
          exact K32 v3c4 x12 v2c4 ls j6 (iv_w i_x12 (by decide) (by decide)) i_v2c4 hm4 hR (lv_sub hl [0, 1, 3] rfl)
  delta m_Model_familyOf at hR
  refine lv_iconst (v := 0) hx hb dX12_familyOf_0 (by decide) ?_
  refine lv_istore_n (lv' := [(2, .int (0 : Int32)), (0, .ref q_this), (1, .int p1)]) hx hb dX12_familyOf_1 rfl hl (by decide) rfl (fun ls hl => ?_)
  refine lv_iconst (v := 0) hx hb dX12_familyOf_2 (by decide) ?_
  refine lv_istore_n (lv' := [(3, .int (0 : Int32)), (2, .int (0 : Int32)), (0, .ref q_this), (1, .int p1)]) hx hb dX12_familyOf_3 rfl hl (by decide) rfl (fun ls hl => ?_)
  exact K4 _ (0 : Int32) (0 : Int32) ls (iv_lit (0 : Int32) (by decide) : iv (0 : Int32) 0 255) (iv_lit (0 : Int32) (by decide) : iv (0 : Int32) 0 8) (Nat.lt_succ_self _) hR (lv_sub hl [2, 3, 1, 0] rfl)
abbrev rm_Model_twins : Room := { frames := 2, cells := 0, slots := 0, locals := 43 }
abbrev wgX12_twins : List Cond := .code yX12_twins cX12_twins 4 (some .int) :: gT12
set_option maxHeartbeats 4000000 in
set_option maxRecDepth 100000 in
theorem c_Model_twins (l : Launch) (D : va_G) (ct : Nat → ClassId) (q_this q_this_told q_this_face q_this_forehead q_this_sorts q_this_ofWears q_this_ofSits q_this_values q_this_jawTold q_this_browTold q_this_stoneTold q_this_orphan q_this_faceTold q_this_foreheadTold q_this_ageTold q_this_familyTold q_this_rains q_this_signsWears q_this_signsSits q_this_status q_this_tape q_this_jaw q_this_brow q_this_stone q_this_age q_this_family q_this_seat q_this_past q_this_asked q_this_stack q_this_rowThen q_this_leastBy q_this_seenWho q_this_seenIn q_this_seenJaw q_this_rowSeen q_this_fit q_this_seatThen q_this_gains q_this_imageRow q_this_pastThen q_this_seenWhoThen q_this_seenInThen q_this_seenJawThen q_this_statusThen : Nat) (x_this_code x_this_taped x_this_at x_this_size x_this_token x_this_number x_this_begins x_this_stops x_this_bad x_this_badPlace x_this_faultPlace x_this_ofSitting x_this_yearNow x_this_acts x_this_seen x_this_satDown x_this_fitMany x_this_seedNow x_this_hasImage x_this_actsThen x_this_seenThen : Int32) (f_this_told f_this_face f_this_forehead : Nat → Int32) (i_x_this_taped : iv x_this_taped 0 700) (i_x_this_ofSitting : iv x_this_ofSitting 0 1) (i_x_this_yearNow : iv x_this_yearNow 0 5000) (i_x_this_acts : iv x_this_acts 0 40) (i_x_this_seen : iv x_this_seen 0 8) (i_x_this_fitMany : iv x_this_fitMany 0 800) (i_x_this_hasImage : iv x_this_hasImage 0 1) (i_x_this_actsThen : iv x_this_actsThen 0 40) (i_x_this_seenThen : iv x_this_seenThen 0 8) (tv : tv f_this_told) : cP l yX12_twins wgX12_twins rm_Model_twins D ct [(q_this, .inr (11, [.ref q_this_sorts, .ref q_this_ofWears, .ref q_this_ofSits, .ref q_this_values, .int x_this_code, .ref q_this_told, .ref q_this_jawTold, .ref q_this_browTold, .ref q_this_stoneTold, .ref q_this_orphan, .ref q_this_faceTold, .ref q_this_foreheadTold, .ref q_this_ageTold, .ref q_this_familyTold, .ref q_this_rains, .ref q_this_signsWears, .ref q_this_signsSits, .ref q_this_status, .ref q_this_tape, .int x_this_taped, .int x_this_at, .int x_this_size, .int x_this_token, .int x_this_number, .int x_this_begins, .int x_this_stops, .int x_this_bad, .int x_this_badPlace, .int x_this_faultPlace, .int x_this_ofSitting, .ref q_this_jaw, .ref q_this_brow, .ref q_this_stone, .ref q_this_face, .ref q_this_forehead, .ref q_this_age, .ref q_this_family, .ref q_this_seat, .ref q_this_past, .int x_this_yearNow, .int x_this_acts, .int x_this_seen, .ref q_this_asked, .ref q_this_stack, .int x_this_satDown, .ref q_this_rowThen, .ref q_this_leastBy, .ref q_this_seenWho, .ref q_this_seenIn, .ref q_this_seenJaw, .ref q_this_rowSeen, .ref q_this_fit, .ref q_this_seatThen, .int x_this_fitMany, .ref q_this_gains, .int x_this_seedNow, .int x_this_hasImage, .int x_this_actsThen, .int x_this_seenThen, .ref q_this_imageRow, .ref q_this_pastThen, .ref q_this_seenWhoThen, .ref q_this_seenInThen, .ref q_this_seenJawThen, .ref q_this_statusThen])), (q_this_told, .inl (ct 0, 12, .inl f_this_told)), (q_this_face, .inl (ct 0, 8, .inl f_this_face)), (q_this_forehead, .inl (ct 0, 8, .inl f_this_forehead))] [.ref q_this] (fun r : Int32 => r = m_Model_twins f_this_told f_this_face f_this_forehead) := by
  refine cP_of (cc := cX12_twins) (maxL := 4) (by decide) rfl (Nat.le_of_ble_eq_true rfl) ?_
  intro p e s m args below meth c Q hx hb hml hts hown hK hP hE ls hl
  have hP : va_P D vwCl [(q_this, .inr (11, [.ref q_this_sorts, .ref q_this_ofWears, .ref q_this_ofSits, .ref q_this_values, .int x_this_code, .ref q_this_told, .ref q_this_jawTold, .ref q_this_browTold, .ref q_this_stoneTold, .ref q_this_orphan, .ref q_this_faceTold, .ref q_this_foreheadTold, .ref q_this_ageTold, .ref q_this_familyTold, .ref q_this_rains, .ref q_this_signsWears, .ref q_this_signsSits, .ref q_this_status, .ref q_this_tape, .int x_this_taped, .int x_this_at, .int x_this_size, .int x_this_token, .int x_this_number, .int x_this_begins, .int x_this_stops, .int x_this_bad, .int x_this_badPlace, .int x_this_faultPlace, .int x_this_ofSitting, .ref q_this_jaw, .ref q_this_brow, .ref q_this_stone, .ref q_this_face, .ref q_this_forehead, .ref q_this_age, .ref q_this_family, .ref q_this_seat, .ref q_this_past, .int x_this_yearNow, .int x_this_acts, .int x_this_seen, .ref q_this_asked, .ref q_this_stack, .int x_this_satDown, .ref q_this_rowThen, .ref q_this_leastBy, .ref q_this_seenWho, .ref q_this_seenIn, .ref q_this_seenJaw, .ref q_this_rowSeen, .ref q_this_fit, .ref q_this_seatThen, .int x_this_fitMany, .ref q_this_gains, .int x_this_seedNow, .int x_this_hasImage, .int x_this_actsThen, .int x_this_seenThen, .ref q_this_imageRow, .ref q_this_pastThen, .ref q_this_seenWhoThen, .ref q_this_seenInThen, .ref q_this_seenJawThen, .ref q_this_statusThen])), (q_this_told, .inl (ct 0, 12, .inl f_this_told)), (q_this_face, .inl (ct 0, 8, .inl f_this_face)), (q_this_forehead, .inl (ct 0, 8, .inl f_this_forehead))] s.heap := hP
  have mG : ∀ (i : Nat) {w : Cond}, gT12[i]? = some w → w ∈ wgX12_twins := fun i w h => List.mem_cons_of_mem _ (List.mem_of_getElem? h)
  have hl : lv_has ls 4 [(0, .ref q_this)] := hl
  obtain ⟨R, hRe⟩ : ∃ R : (Int32), R = m_Model_twins f_this_told f_this_face f_this_forehead := ⟨_, rfl⟩
  have hR : uy_Q R (fun z : (Int32) => z) (m_Model_twins f_this_told f_this_face f_this_forehead) := hRe
  have hin_Model : ∀ w ∈ u_ws RX12 TX12 65, w ∈ wgX12_twins := fun w h => List.mem_cons_of_mem _ (ingT12_X12 w h)
  have K4 : ∀ (n4 : Nat) (v1c4 v2c4 : Int32) (ls : Array Slot), iv v2c4 0 8 → (8 - v2c4.toInt).toNat < n4 → uy_Q R (fun z : (Int32) => z) (m_Model_twins_k4 f_this_told f_this_face f_this_forehead (v1c4, v2c4)) → lv_has ls 4 [(0, .ref q_this), (1, .int v1c4), (2, .int v2c4)] → W p l e rm_Model_twins s m args below meth c s.heap [] 0 0 Q (F0 m 4 ls []) := by
    intro n4
    induction n4 with
    | zero => intro v1c4 v2c4 ls i_v2c4 hm4 hR hl; exact absurd hm4 (Nat.not_lt_zero _)
    | succ n4 ih4 =>
      intro v1c4 v2c4 ls i_v2c4 hm4 hR hl
      replace hR : uy_Q R (uy_E (fun z : (Int32) => z) (m_Model_twins_k4 f_this_told f_this_face f_this_forehead)) (m_Model_twins_b4 f_this_told f_this_face f_this_forehead v1c4 v2c4) := uy_whs hR
      have K16 : ∀ (n16 : Nat) (v1c16 v2c16 v3c16 : Int32) (ls : Array Slot), iv v2c16 0 7 → iv v3c16 0 7 → (7 - v3c16.toInt).toNat < n16 → (8 - v2c16.toInt).toNat < n4 + 1 → uy_Q R (uy_E (fun z : (Int32) => z) (m_Model_twins_k4 f_this_told f_this_face f_this_forehead)) (m_Model_twins_k16 f_this_told f_this_face f_this_forehead (v1c16, v2c16, v3c16)) → lv_has ls 4 [(0, .ref q_this), (1, .int v1c16), (2, .int v2c16), (3, .int v3c16)] → W p l e rm_Model_twins s m args below meth c s.heap [] 0 0 Q (F0 m 16 ls []) := by
        intro n16
        induction n16 with
        | zero => intro v1c16 v2c16 v3c16 ls i_v2c16 i_v3c16 hm16 hm4 hR hl; exact absurd hm16 (Nat.not_lt_zero _)
        | succ n16 ih16 =>
          intro v1c16 v2c16 v3c16 ls i_v2c16 i_v3c16 hm16 hm4 hR hl
          replace hR : uy_Q R (uy_E (uy_E (fun z : (Int32) => z) (m_Model_twins_k4 f_this_told f_this_face f_this_forehead)) (m_Model_twins_k16 f_this_told f_this_face f_this_forehead)) (m_Model_twins_b16 f_this_told f_this_face f_this_forehead v1c16 v2c16 v3c16) := uy_whs hR
          have K36 : ∀ (v2c36 v3c36 s0c36 s1c36 : Int32) (ls : Array Slot), iv v2c36 1 7 → iv v3c36 0 6 → iv s0c36 0 1 → (7 - v3c36.toInt).toNat < n16 + 1 → (8 - v2c36.toInt).toNat < n4 + 1 → uy_Q R (uy_E (uy_E (fun z : (Int32) => z) (m_Model_twins_k4 f_this_told f_this_face f_this_forehead)) (m_Model_twins_k16 f_this_told f_this_face f_this_forehead)) (m_Model_twins_k36 f_this_told f_this_face f_this_forehead v2c36 v3c36 s0c36 s1c36) → lv_has ls 4 [(0, .ref q_this), (2, .int v2c36), (3, .int v3c36)] → W p l e rm_Model_twins s m args below meth c s.heap [] 0 0 Q (F0 m 36 ls [.int s0c36, .int s1c36]) := by
            intro v2c36 v3c36 s0c36 s1c36 ls i_v2c36 i_v3c36 i_s0c36 hm16 hm4 hR hl
            delta m_Model_twins_k36 at hR
            refine lv_iadd hx hb dX12_twins_36 ?_
            refine lv_topi (fun x1 ex1 => ?_)
            replace hR := uy_Ls ex1 hR
            refine lv_istore_n (lv' := [(1, .int x1), (0, .ref q_this), (2, .int v2c36), (3, .int v3c36)]) hx hb dX12_twins_37 rfl hl (by decide) rfl (fun ls hl => ?_)
            obtain ⟨x2, ex2⟩ : ∃ z : Int32, z = v3c36 + (1 : Int32) := ⟨_, rfl⟩
            refine lv_iinc (v := x2) (lv' := [(3, .int x2), (1, .int x1), (0, .ref q_this), (2, .int v2c36)]) hx hb dX12_twins_38 hl (k := 3) rfl (by rw [ex2]; rfl) (by decide) rfl (fun ls hl => ?_)
            replace hR := uy_Ls ex2 hR
            have i_x2 : iv x2 1 7 := iv_add ex2 i_v3c36 (iv_lit (1 : Int32) (by decide) : iv (1 : Int32) 1 1) (by decide) (by decide) (by decide) (by decide)
            refine lv_goto (tgt := 16) hx hb dX12_twins_41 (by decide) ?_
            exact ih16 x1 v2c36 x2 ls (iv_w i_v2c36 (by decide) (by decide)) (iv_w i_x2 (by decide) (by decide)) (ms_up ex2 i_v3c36 (by decide) (by decide) hm16) hm4 (uy_Ql hR) (lv_sub hl [2, 1, 3, 0] rfl)
          delta m_Model_twins_b16 at hR
          refine lv_iload_n hx hb dX12_twins_16 rfl (lv_at hl 3 rfl) ?_
          refine lv_iload_n hx hb dX12_twins_17 rfl (lv_at hl 2 rfl) ?_
          refine lv_icmp_ge (tgt := 44) hx hb dX12_twins_18 (by decide) (fun c3 => ?_) (fun c3 => ?_)
          ·
            replace hR := uy_Qp c3 hR
            obtain ⟨x4, ex4⟩ : ∃ z : Int32, z = v2c16 + (1 : Int32) := ⟨_, rfl⟩
            refine lv_iinc (v := x4) (lv' := [(2, .int x4), (0, .ref q_this), (1, .int v1c16), (3, .int v3c16)]) hx hb dX12_twins_44 hl (k := 2) rfl (by rw [ex4]; rfl) (by decide) rfl (fun ls hl => ?_)
            replace hR := uy_Ls ex4 hR
            have i_x4 : iv x4 1 8 := iv_add ex4 i_v2c16 (iv_lit (1 : Int32) (by decide) : iv (1 : Int32) 1 1) (by decide) (by decide) (by decide) (by decide)
            refine lv_goto (tgt := 4) hx hb dX12_twins_47 (by decide) ?_
            exact ih4 v1c16 x4 ls (iv_w i_x4 (by decide) (by decide)) (ms_up ex4 i_v2c16 (by decide) (by decide) hm4) (uy_Ql (uy_Qr hR)) (lv_sub hl [1, 2, 0] rfl)
          ·
            replace hR := uy_Qn c3 hR
            have j5 : iv v3c16 0 6 := iv_ltL (iv_nle c3) i_v3c16 i_v2c16 (by decide)
            have j6 : iv v2c16 1 7 := iv_ltR (iv_nle c3) i_v3c16 i_v2c16 (by decide)
            refine lv_iload_n hx hb dX12_twins_21 rfl (lv_at hl 1 rfl) ?_
            refine lv_aload_n hx hb dX12_twins_22 rfl (lv_at hl 0 rfl) ?_
            refine lv_iload_n hx hb dX12_twins_23 rfl (lv_at hl 2 rfl) ?_
            refine lv_iload_n hx hb dX12_twins_24 rfl (lv_at hl 3 rfl) ?_
            refine kPV (rest := [.int v1c16]) (ci := 11) ⟨hx, hb, hml, hown, hts⟩ (c_Model_unlikePeople l D ct q_this q_this_face q_this_forehead q_this_sorts q_this_ofWears q_this_ofSits q_this_values q_this_told q_this_jawTold q_this_browTold q_this_stoneTold q_this_orphan q_this_faceTold q_this_foreheadTold q_this_ageTold q_this_familyTold q_this_rains q_this_signsWears q_this_signsSits q_this_status q_this_tape q_this_jaw q_this_brow q_this_stone q_this_age q_this_family q_this_seat q_this_past q_this_asked q_this_stack q_this_rowThen q_this_leastBy q_this_seenWho q_this_seenIn q_this_seenJaw q_this_rowSeen q_this_fit q_this_seatThen q_this_gains q_this_imageRow q_this_pastThen q_this_seenWhoThen q_this_seenInThen q_this_seenJawThen q_this_statusThen x_this_code x_this_taped x_this_at x_this_size x_this_token x_this_number x_this_begins x_this_stops x_this_bad x_this_badPlace x_this_faultPlace x_this_ofSitting x_this_yearNow x_this_acts x_this_seen x_this_satDown x_this_fitMany x_this_seedNow x_this_hasImage x_this_actsThen x_this_seenThen f_this_face f_this_forehead v2c16 v3c16 i_x_this_taped i_x_this_ofSitting i_x_this_yearNow i_x_this_acts i_x_this_seen i_x_this_fitMany i_x_this_hasImage i_x_this_actsThen i_x_this_seenThen (iv_w j6 (by decide) (by decide)) (iv_w j5 (by decide) (by decide))) (cwV 2 hts (gInVm gT12_good (gIn0m gT12_good (gm12 5 8 (by first | rfl | decide +kernel))) (gm12 5 10 (by first | rfl | decide +kernel)) (gm12 5 11 (by first | rfl | decide +kernel)) (gm12 5 12 (by first | rfl | decide +kernel)) (gm12 1 0 (by first | rfl | decide +kernel))) rfl rfl rfl (by first | exact hdX12_unlikePeople_2 | decide +kernel) ⟨(Nat.le_of_ble_eq_true rfl), (Nat.le_of_ble_eq_true rfl)⟩) hK hP [0, 2, 3] rfl rfl rfl rfl rfl hl.1 rfl (Nat.le_of_ble_eq_true rfl) dX12_twins_25 ⟨(Nat.le_of_ble_eq_true rfl), (Nat.le_of_ble_eq_true rfl)⟩ (fun r7 hr7 => ?_)
            have m8 : r7 = m_Model_unlikePeople f_this_face f_this_forehead v2c16 v3c16 := hr7
            replace hR := uy_Cs1 m8 hR
            refine lv_if_ne (tgt := 35) hx hb dX12_twins_28 (by decide) (fun c9 => ?_) (fun c9 => ?_)
            ·
              replace hR := uy_Qn c9 hR
              refine lv_iconst (v := 0) hx hb dX12_twins_35 (by decide) ?_
              exact K36 v2c16 v3c16 (0 : Int32) v1c16 ls j6 j5 (iv_lit (0 : Int32) (by decide) : iv (0 : Int32) 0 1) hm16 hm4 hR (lv_sub hl [0, 2, 3] rfl)
            ·
              replace hR := uy_Qp c9 hR
              have j10 : iv r7 0 0 := by rw [c9]; exact (iv_lit (0 : Int32) (by decide) : iv (0 : Int32) 0 0)
              refine lv_iconst (v := 1) hx hb dX12_twins_31 (by decide) ?_
              refine lv_goto (tgt := 36) hx hb dX12_twins_32 (by decide) ?_
              exact K36 v2c16 v3c16 (1 : Int32) v1c16 ls j6 j5 (iv_lit (1 : Int32) (by decide) : iv (1 : Int32) 0 1) hm16 hm4 hR (lv_sub hl [0, 2, 3] rfl)
      delta m_Model_twins_b4 at hR
      refine lv_iload_n hx hb dX12_twins_4 rfl (lv_at hl 2 rfl) ?_
      refine lv_aload_n hx hb dX12_twins_5 rfl (lv_at hl 0 rfl) ?_
      refine va_get (D := D) (ci := 11) (v := .ref q_this_told) (C := RX12) (T := TX12) (N := 65) hx hb hts hin_Model hown hK hP 0 rfl rfl 5 (by decide) (hts (.fieldLink RX12 42 "GutterSeatsModel" "told" "[I") (List.mem_cons_of_mem _ (gm12 0 10 (by first | rfl | decide +kernel)))) (fun _ h9 => h9) rfl dX12_twins_6 ?_
      refine lv_iconst (v := 1) hx hb dX12_twins_9 (by decide) ?_
      have n11 : vp_in (1 : Int32) 12 := iv_in (iv_lit (1 : Int32) (by decide) : iv (1 : Int32) 1 1) (by decide) (by decide)
      refine va_iald hx hb hK hP 1 0 rfl rfl n11 dX12_twins_10 ?_
      refine lv_topi (fun x12 ex12 => ?_)
      replace hR := uy_Ls ex12 hR
      have i_x12 : iv x12 0 8 := by rw [ex12]; exact tv.2.1
      refine lv_icmp_ge (tgt := 50) hx hb dX12_twins_11 (by decide) (fun c13 => ?_) (fun c13 => ?_)
      ·
        replace hR := uy_Qp c13 hR
        refine lv_iload_n hx hb dX12_twins_50 rfl (lv_at hl 1 rfl) ?_
        exact hE _ _ _ ((uy_Q0 (uy_Qr hR)).symm.trans hRe) dX12_twins_51
      ·
        replace hR := uy_Qn c13 hR
        have j14 : iv v2c4 0 7 := iv_ltL (iv_nle c13) i_v2c4 i_x12 (by decide)
        have j15 : iv x12 1 8 := iv_ltR (iv_nle c13) i_v2c4 i_x12 (by decide)
        refine lv_iconst (v := 0) hx hb dX12_twins_14 (by decide) ?_
        refine lv_istore_n (lv' := [(3, .int (0 : Int32)), (0, .ref q_this), (1, .int v1c4), (2, .int v2c4)]) hx hb dX12_twins_15 rfl hl (by decide) rfl (fun ls hl => ?_)
        exact K16 _ v1c4 v2c4 (0 : Int32) ls j14 (iv_lit (0 : Int32) (by decide) : iv (0 : Int32) 0 7) (Nat.lt_succ_self _) hm4 hR (lv_sub hl [1, 2, 3, 0] rfl)
  delta m_Model_twins at hR
  refine lv_iconst (v := 0) hx hb dX12_twins_0 (by decide) ?_
  refine lv_istore_n (lv' := [(1, .int (0 : Int32)), (0, .ref q_this)]) hx hb dX12_twins_1 rfl hl (by decide) rfl (fun ls hl => ?_)
  refine lv_iconst (v := 0) hx hb dX12_twins_2 (by decide) ?_
  refine lv_istore_n (lv' := [(2, .int (0 : Int32)), (1, .int (0 : Int32)), (0, .ref q_this)]) hx hb dX12_twins_3 rfl hl (by decide) rfl (fun ls hl => ?_)
  exact K4 _ (0 : Int32) (0 : Int32) ls (iv_lit (0 : Int32) (by decide) : iv (0 : Int32) 0 8) (Nat.lt_succ_self _) hR (lv_sub hl [2, 1, 0] rfl)
abbrev rm_Model_eldestSitting : Room := { frames := 0, cells := 0, slots := 0, locals := 0 }
abbrev wgX12_eldestSitting : List Cond := .code yX12_eldestSitting cX12_eldestSitting 3 (some .int) :: gT12
set_option maxHeartbeats 4000000 in
set_option maxRecDepth 100000 in
theorem c_Model_eldestSitting (l : Launch) (D : va_G) (ct : Nat → ClassId) (q_this q_this_told q_this_age q_this_seat q_this_sorts q_this_ofWears q_this_ofSits q_this_values q_this_jawTold q_this_browTold q_this_stoneTold q_this_orphan q_this_faceTold q_this_foreheadTold q_this_ageTold q_this_familyTold q_this_rains q_this_signsWears q_this_signsSits q_this_status q_this_tape q_this_jaw q_this_brow q_this_stone q_this_face q_this_forehead q_this_family q_this_past q_this_asked q_this_stack q_this_rowThen q_this_leastBy q_this_seenWho q_this_seenIn q_this_seenJaw q_this_rowSeen q_this_fit q_this_seatThen q_this_gains q_this_imageRow q_this_pastThen q_this_seenWhoThen q_this_seenInThen q_this_seenJawThen q_this_statusThen : Nat) (x_this_code x_this_taped x_this_at x_this_size x_this_token x_this_number x_this_begins x_this_stops x_this_bad x_this_badPlace x_this_faultPlace x_this_ofSitting x_this_yearNow x_this_acts x_this_seen x_this_satDown x_this_fitMany x_this_seedNow x_this_hasImage x_this_actsThen x_this_seenThen : Int32) (f_this_told f_this_age f_this_seat : Nat → Int32) (i_x_this_taped : iv x_this_taped 0 700) (i_x_this_ofSitting : iv x_this_ofSitting 0 1) (i_x_this_yearNow : iv x_this_yearNow 0 5000) (i_x_this_acts : iv x_this_acts 0 40) (i_x_this_seen : iv x_this_seen 0 8) (i_x_this_fitMany : iv x_this_fitMany 0 800) (i_x_this_hasImage : iv x_this_hasImage 0 1) (i_x_this_actsThen : iv x_this_actsThen 0 40) (i_x_this_seenThen : iv x_this_seenThen 0 8) (a_f_this_seat : av f_this_seat 8 (-1) 7) (tv : tv f_this_told) : cP l yX12_eldestSitting wgX12_eldestSitting rm_Model_eldestSitting D ct [(q_this, .inr (11, [.ref q_this_sorts, .ref q_this_ofWears, .ref q_this_ofSits, .ref q_this_values, .int x_this_code, .ref q_this_told, .ref q_this_jawTold, .ref q_this_browTold, .ref q_this_stoneTold, .ref q_this_orphan, .ref q_this_faceTold, .ref q_this_foreheadTold, .ref q_this_ageTold, .ref q_this_familyTold, .ref q_this_rains, .ref q_this_signsWears, .ref q_this_signsSits, .ref q_this_status, .ref q_this_tape, .int x_this_taped, .int x_this_at, .int x_this_size, .int x_this_token, .int x_this_number, .int x_this_begins, .int x_this_stops, .int x_this_bad, .int x_this_badPlace, .int x_this_faultPlace, .int x_this_ofSitting, .ref q_this_jaw, .ref q_this_brow, .ref q_this_stone, .ref q_this_face, .ref q_this_forehead, .ref q_this_age, .ref q_this_family, .ref q_this_seat, .ref q_this_past, .int x_this_yearNow, .int x_this_acts, .int x_this_seen, .ref q_this_asked, .ref q_this_stack, .int x_this_satDown, .ref q_this_rowThen, .ref q_this_leastBy, .ref q_this_seenWho, .ref q_this_seenIn, .ref q_this_seenJaw, .ref q_this_rowSeen, .ref q_this_fit, .ref q_this_seatThen, .int x_this_fitMany, .ref q_this_gains, .int x_this_seedNow, .int x_this_hasImage, .int x_this_actsThen, .int x_this_seenThen, .ref q_this_imageRow, .ref q_this_pastThen, .ref q_this_seenWhoThen, .ref q_this_seenInThen, .ref q_this_seenJawThen, .ref q_this_statusThen])), (q_this_told, .inl (ct 0, 12, .inl f_this_told)), (q_this_age, .inl (ct 0, 8, .inl f_this_age)), (q_this_seat, .inl (ct 0, 8, .inl f_this_seat))] [.ref q_this] (fun r : Int32 => iv r (-1) 7 ∧ r = m_Model_eldestSitting f_this_told f_this_age f_this_seat) := by
  refine cP_of (cc := cX12_eldestSitting) (maxL := 3) (by decide) rfl (Nat.le_of_ble_eq_true rfl) ?_
  intro p e s m args below meth c Q hx hb hml hts hown hK hP hE ls hl
  have hP : va_P D vwCl [(q_this, .inr (11, [.ref q_this_sorts, .ref q_this_ofWears, .ref q_this_ofSits, .ref q_this_values, .int x_this_code, .ref q_this_told, .ref q_this_jawTold, .ref q_this_browTold, .ref q_this_stoneTold, .ref q_this_orphan, .ref q_this_faceTold, .ref q_this_foreheadTold, .ref q_this_ageTold, .ref q_this_familyTold, .ref q_this_rains, .ref q_this_signsWears, .ref q_this_signsSits, .ref q_this_status, .ref q_this_tape, .int x_this_taped, .int x_this_at, .int x_this_size, .int x_this_token, .int x_this_number, .int x_this_begins, .int x_this_stops, .int x_this_bad, .int x_this_badPlace, .int x_this_faultPlace, .int x_this_ofSitting, .ref q_this_jaw, .ref q_this_brow, .ref q_this_stone, .ref q_this_face, .ref q_this_forehead, .ref q_this_age, .ref q_this_family, .ref q_this_seat, .ref q_this_past, .int x_this_yearNow, .int x_this_acts, .int x_this_seen, .ref q_this_asked, .ref q_this_stack, .int x_this_satDown, .ref q_this_rowThen, .ref q_this_leastBy, .ref q_this_seenWho, .ref q_this_seenIn, .ref q_this_seenJaw, .ref q_this_rowSeen, .ref q_this_fit, .ref q_this_seatThen, .int x_this_fitMany, .ref q_this_gains, .int x_this_seedNow, .int x_this_hasImage, .int x_this_actsThen, .int x_this_seenThen, .ref q_this_imageRow, .ref q_this_pastThen, .ref q_this_seenWhoThen, .ref q_this_seenInThen, .ref q_this_seenJawThen, .ref q_this_statusThen])), (q_this_told, .inl (ct 0, 12, .inl f_this_told)), (q_this_age, .inl (ct 0, 8, .inl f_this_age)), (q_this_seat, .inl (ct 0, 8, .inl f_this_seat))] s.heap := hP
  have mG : ∀ (i : Nat) {w : Cond}, gT12[i]? = some w → w ∈ wgX12_eldestSitting := fun i w h => List.mem_cons_of_mem _ (List.mem_of_getElem? h)
  have hl : lv_has ls 3 [(0, .ref q_this)] := hl
  obtain ⟨R, hRe⟩ : ∃ R : (Int32), R = m_Model_eldestSitting f_this_told f_this_age f_this_seat := ⟨_, rfl⟩
  have hR : uy_Q R (fun z : (Int32) => z) (m_Model_eldestSitting f_this_told f_this_age f_this_seat) := hRe
  have hin_Model : ∀ w ∈ u_ws RX12 TX12 65, w ∈ wgX12_eldestSitting := fun w h => List.mem_cons_of_mem _ (ingT12_X12 w h)
  have K4 : ∀ (n4 : Nat) (v1c4 v2c4 : Int32) (ls : Array Slot), iv v1c4 (-1) 7 → iv v2c4 0 8 → (8 - v2c4.toInt).toNat < n4 → uy_Q R (fun z : (Int32) => z) (m_Model_eldestSitting_k4 f_this_told f_this_age f_this_seat (v1c4, v2c4)) → lv_has ls 3 [(0, .ref q_this), (1, .int v1c4), (2, .int v2c4)] → W p l e rm_Model_eldestSitting s m args below meth c s.heap [] 0 0 Q (F0 m 4 ls []) := by
    intro n4
    induction n4 with
    | zero => intro v1c4 v2c4 ls i_v1c4 i_v2c4 hm4 hR hl; exact absurd hm4 (Nat.not_lt_zero _)
    | succ n4 ih4 =>
      intro v1c4 v2c4 ls i_v1c4 i_v2c4 hm4 hR hl
      replace hR : uy_Q R (uy_E (fun z : (Int32) => z) (m_Model_eldestSitting_k4 f_this_told f_this_age f_this_seat)) (m_Model_eldestSitting_b4 f_this_told f_this_age f_this_seat v1c4 v2c4) := uy_whs hR
      have K46 : ∀ (v1c46 v2c46 : Int32) (ls : Array Slot), iv v1c46 (-1) 7 → iv v2c46 0 7 → (8 - v2c46.toInt).toNat < n4 + 1 → uy_Q R (uy_E (fun z : (Int32) => z) (m_Model_eldestSitting_k4 f_this_told f_this_age f_this_seat)) (m_Model_eldestSitting_k46 f_this_told f_this_age f_this_seat v1c46 v2c46) → lv_has ls 3 [(0, .ref q_this), (1, .int v1c46), (2, .int v2c46)] → W p l e rm_Model_eldestSitting s m args below meth c s.heap [] 0 0 Q (F0 m 46 ls []) := by
        intro v1c46 v2c46 ls i_v1c46 i_v2c46 hm4 hR hl
        delta m_Model_eldestSitting_k46 at hR
        obtain ⟨x1, ex1⟩ : ∃ z : Int32, z = v2c46 + (1 : Int32) := ⟨_, rfl⟩
        refine lv_iinc (v := x1) (lv' := [(2, .int x1), (0, .ref q_this), (1, .int v1c46)]) hx hb dX12_eldestSitting_46 hl (k := 2) rfl (by rw [ex1]; rfl) (by decide) rfl (fun ls hl => ?_)
        replace hR := uy_Ls ex1 hR
        have i_x1 : iv x1 1 8 := iv_add ex1 i_v2c46 (iv_lit (1 : Int32) (by decide) : iv (1 : Int32) 1 1) (by decide) (by decide) (by decide) (by decide)
        refine lv_goto (tgt := 4) hx hb dX12_eldestSitting_49 (by decide) ?_
        exact ih4 v1c46 x1 ls i_v1c46 (iv_w i_x1 (by decide) (by decide)) (ms_up ex1 i_v2c46 (by decide) (by decide) hm4) (uy_Ql hR) (lv_sub hl [1, 2, 0] rfl)
      have K44 : ∀ (v2c44 : Int32) (ls : Array Slot), iv v2c44 0 7 → (8 - v2c44.toInt).toNat < n4 + 1 → uy_Q R (uy_E (fun z : (Int32) => z) (m_Model_eldestSitting_k4 f_this_told f_this_age f_this_seat)) (m_Model_eldestSitting_k44 f_this_told f_this_age f_this_seat v2c44) → lv_has ls 3 [(0, .ref q_this), (2, .int v2c44)] → W p l e rm_Model_eldestSitting s m args below meth c s.heap [] 0 0 Q (F0 m 44 ls []) := by
        intro v2c44 ls i_v2c44 hm4 hR hl
        delta m_Model_eldestSitting_k44 at hR
        refine lv_iload_n hx hb dX12_eldestSitting_44 rfl (lv_at hl 1 rfl) ?_
        refine lv_istore_n (lv' := [(1, .int v2c44), (0, .ref q_this), (2, .int v2c44)]) hx hb dX12_eldestSitting_45 rfl hl (by decide) rfl (fun ls hl => ?_)
        exact K46 v2c44 v2c44 ls (iv_w i_v2c44 (by decide) (by decide)) i_v2c44 hm4 hR (lv_sub hl [1, 0, 2] rfl)
      delta m_Model_eldestSitting_b4 at hR
      refine lv_iload_n hx hb dX12_eldestSitting_4 rfl (lv_at hl 2 rfl) ?_
      refine lv_aload_n hx hb dX12_eldestSitting_5 rfl (lv_at hl 0 rfl) ?_
      refine va_get (D := D) (ci := 11) (v := .ref q_this_told) (C := RX12) (T := TX12) (N := 65) hx hb hts hin_Model hown hK hP 0 rfl rfl 5 (by decide) (hts (.fieldLink RX12 42 "GutterSeatsModel" "told" "[I") (List.mem_cons_of_mem _ (gm12 0 10 (by first | rfl | decide +kernel)))) (fun _ h9 => h9) rfl dX12_eldestSitting_6 ?_
      refine lv_iconst (v := 1) hx hb dX12_eldestSitting_9 (by decide) ?_
      have n2 : vp_in (1 : Int32) 12 := iv_in (iv_lit (1 : Int32) (by decide) : iv (1 : Int32) 1 1) (by decide) (by decide)
      refine va_iald hx hb hK hP 1 0 rfl rfl n2 dX12_eldestSitting_10 ?_
      refine lv_topi (fun x3 ex3 => ?_)
      replace hR := uy_Ls ex3 hR
      have i_x3 : iv x3 0 8 := by rw [ex3]; exact tv.2.1
      refine lv_icmp_ge (tgt := 52) hx hb dX12_eldestSitting_11 (by decide) (fun c4 => ?_) (fun c4 => ?_)
      ·
        replace hR := uy_Qp c4 hR
        refine lv_iload_n hx hb dX12_eldestSitting_52 rfl (lv_at hl 1 rfl) ?_
        exact hE _ _ _ ⟨i_v1c4, ((uy_Q0 (uy_Qr hR)).symm.trans hRe)⟩ dX12_eldestSitting_53
      ·
        replace hR := uy_Qn c4 hR
        have j5 : iv v2c4 0 7 := iv_ltL (iv_nle c4) i_v2c4 i_x3 (by decide)
        have j6 : iv x3 1 8 := iv_ltR (iv_nle c4) i_v2c4 i_x3 (by decide)
        refine lv_aload_n hx hb dX12_eldestSitting_14 rfl (lv_at hl 0 rfl) ?_
        refine va_get (D := D) (ci := 11) (v := .ref q_this_seat) (C := RX12) (T := TX12) (N := 65) hx hb hts hin_Model hown hK hP 0 rfl rfl 37 (by decide) (hts (.fieldLink RX12 106 "GutterSeatsModel" "seat" "[I") (List.mem_cons_of_mem _ (gm12 0 32 (by first | rfl | decide +kernel)))) (fun _ h9 => h9) rfl dX12_eldestSitting_15 ?_
        refine lv_iload_n hx hb dX12_eldestSitting_18 rfl (lv_at hl 2 rfl) ?_
        have n7 : vp_in v2c4 8 := iv_in j5 (by decide) (by decide)
        refine va_iald hx hb hK hP 3 0 rfl rfl n7 dX12_eldestSitting_19 ?_
        refine lv_topi (fun x8 ex8 => ?_)
        replace hR := uy_Ls ex8 hR
        have i_x8 : iv x8 (-1) 7 := by rw [ex8]; exact av_get a_f_this_seat n7
        refine lv_iconst (v := -1) hx hb dX12_eldestSitting_20 (by decide) ?_
        refine lv_icmp_eq (tgt := 46) hx hb dX12_eldestSitting_21 (by decide) (fun c9 => ?_) (fun c9 => ?_)
        ·
          replace hR := uy_Qp c9 hR
          have j10 : iv x8 (-1) (-1) := by rw [c9]; exact (iv_lit (-1 : Int32) (by decide) : iv (-1 : Int32) (-1) (-1))
          exact K46 v1c4 v2c4 ls i_v1c4 j5 hm4 hR (lv_sub hl [0, 1, 2] rfl)
        ·
          replace hR := uy_Qn c9 hR
          have j11 : iv x8 0 7 := iv_neL c9 i_x8 rfl (by decide)
          refine lv_iload_n hx hb dX12_eldestSitting_24 rfl (lv_at hl 1 rfl) ?_
          refine lv_iconst (v := -1) hx hb dX12_eldestSitting_25 (by decide) ?_
          refine lv_icmp_eq (tgt := 44) hx hb dX12_eldestSitting_26 (by decide) (fun c12 => ?_) (fun c12 => ?_)
          ·
            replace hR := uy_Qp c12 hR
            have j13 : iv v1c4 (-1) (-1) := by rw [c12]; exact (iv_lit (-1 : Int32) (by decide) : iv (-1 : Int32) (-1) (-1))
            exact K44 v2c4 ls j5 hm4 hR (lv_sub hl [0, 2] rfl)
          ·
            replace hR := uy_Qn c12 hR
            have j14 : iv v1c4 0 7 := iv_neL c12 i_v1c4 rfl (by decide)
            refine lv_aload_n hx hb dX12_eldestSitting_29 rfl (lv_at hl 0 rfl) ?_
            refine va_get (D := D) (ci := 11) (v := .ref q_this_age) (C := RX12) (T := TX12) (N := 65) hx hb hts hin_Model hown hK hP 0 rfl rfl 35 (by decide) (hts (.fieldLink RX12 102 "GutterSeatsModel" "age" "[I") (List.mem_cons_of_mem _ (gm12 0 30 (by first | rfl | decide +kernel)))) (fun _ h9 => h9) rfl dX12_eldestSitting_30 ?_
            refine lv_iload_n hx hb dX12_eldestSitting_33 rfl (lv_at hl 2 rfl) ?_
            have n15 : vp_in v2c4 8 := iv_in j5 (by decide) (by decide)
            refine va_iald hx hb hK hP 2 0 rfl rfl n15 dX12_eldestSitting_34 ?_
            refine lv_topi (fun x16 ex16 => ?_)
            replace hR := uy_Ls ex16 hR
            refine lv_aload_n hx hb dX12_eldestSitting_35 rfl (lv_at hl 0 rfl) ?_
            refine va_get (D := D) (ci := 11) (v := .ref q_this_age) (C := RX12) (T := TX12) (N := 65) hx hb hts hin_Model hown hK hP 0 rfl rfl 35 (by decide) (hts (.fieldLink RX12 102 "GutterSeatsModel" "age" "[I") (List.mem_cons_of_mem _ (gm12 0 30 (by first | rfl | decide +kernel)))) (fun _ h9 => h9) rfl dX12_eldestSitting_36 ?_
            refine lv_iload_n hx hb dX12_eldestSitting_39 rfl (lv_at hl 1 rfl) ?_
            have n17 : vp_in v1c4 8 := iv_in j14 (by decide) (by decide)
            refine va_iald hx hb hK hP 2 0 rfl rfl n17 dX12_eldestSitting_40 ?_
            refine lv_topi (fun x18 ex18 => ?_)
            replace hR := uy_Ls ex18 hR
            refine lv_icmp_le (tgt := 46) hx hb dX12_eldestSitting_41 (by decide) (fun c19 => ?_) (fun c19 => ?_)
            ·
              replace hR := uy_Qp c19 hR
              exact K46 v1c4 v2c4 ls (iv_w j14 (by decide) (by decide)) j5 hm4 hR (lv_sub hl [0, 1, 2] rfl)
            ·
              replace hR := uy_Qn c19 hR
              have j20 : iv x18 (-2147483648) 2147483646 := iv_ltL (iv_nle c19) (iv_any x18) (iv_any x16) (by decide)
              have j21 : iv x16 (-2147483647) 2147483647 := iv_ltR (iv_nle c19) (iv_any x18) (iv_any x16) (by decide)
              exact K44 v2c4 ls j5 hm4 hR (lv_sub hl [0, 2] rfl)
  delta m_Model_eldestSitting at hR
  refine lv_iconst (v := -1) hx hb dX12_eldestSitting_0 (by decide) ?_
  refine lv_istore_n (lv' := [(1, .int (-1 : Int32)), (0, .ref q_this)]) hx hb dX12_eldestSitting_1 rfl hl (by decide) rfl (fun ls hl => ?_)
  refine lv_iconst (v := 0) hx hb dX12_eldestSitting_2 (by decide) ?_
  refine lv_istore_n (lv' := [(2, .int (0 : Int32)), (1, .int (-1 : Int32)), (0, .ref q_this)]) hx hb dX12_eldestSitting_3 rfl hl (by decide) rfl (fun ls hl => ?_)
  exact K4 _ (-1 : Int32) (0 : Int32) ls (iv_lit (-1 : Int32) (by decide) : iv (-1 : Int32) (-1) 7) (iv_lit (0 : Int32) (by decide) : iv (0 : Int32) 0 8) (Nat.lt_succ_self _) hR (lv_sub hl [2, 1, 0] rfl)
abbrev rm_Model_mostStone : Room := { frames := 0, cells := 0, slots := 0, locals := 0 }
abbrev wgX12_mostStone : List Cond := .code yX12_mostStone cX12_mostStone 3 (some .int) :: gT12
set_option maxHeartbeats 4000000 in
set_option maxRecDepth 100000 in
theorem c_Model_mostStone (l : Launch) (D : va_G) (ct : Nat → ClassId) (q_this q_this_told q_this_stone q_this_sorts q_this_ofWears q_this_ofSits q_this_values q_this_jawTold q_this_browTold q_this_stoneTold q_this_orphan q_this_faceTold q_this_foreheadTold q_this_ageTold q_this_familyTold q_this_rains q_this_signsWears q_this_signsSits q_this_status q_this_tape q_this_jaw q_this_brow q_this_face q_this_forehead q_this_age q_this_family q_this_seat q_this_past q_this_asked q_this_stack q_this_rowThen q_this_leastBy q_this_seenWho q_this_seenIn q_this_seenJaw q_this_rowSeen q_this_fit q_this_seatThen q_this_gains q_this_imageRow q_this_pastThen q_this_seenWhoThen q_this_seenInThen q_this_seenJawThen q_this_statusThen : Nat) (x_this_code x_this_taped x_this_at x_this_size x_this_token x_this_number x_this_begins x_this_stops x_this_bad x_this_badPlace x_this_faultPlace x_this_ofSitting x_this_yearNow x_this_acts x_this_seen x_this_satDown x_this_fitMany x_this_seedNow x_this_hasImage x_this_actsThen x_this_seenThen : Int32) (f_this_told f_this_stone : Nat → Int32) (i_x_this_taped : iv x_this_taped 0 700) (i_x_this_ofSitting : iv x_this_ofSitting 0 1) (i_x_this_yearNow : iv x_this_yearNow 0 5000) (i_x_this_acts : iv x_this_acts 0 40) (i_x_this_seen : iv x_this_seen 0 8) (i_x_this_fitMany : iv x_this_fitMany 0 800) (i_x_this_hasImage : iv x_this_hasImage 0 1) (i_x_this_actsThen : iv x_this_actsThen 0 40) (i_x_this_seenThen : iv x_this_seenThen 0 8) (tv : tv f_this_told) : cP l yX12_mostStone wgX12_mostStone rm_Model_mostStone D ct [(q_this, .inr (11, [.ref q_this_sorts, .ref q_this_ofWears, .ref q_this_ofSits, .ref q_this_values, .int x_this_code, .ref q_this_told, .ref q_this_jawTold, .ref q_this_browTold, .ref q_this_stoneTold, .ref q_this_orphan, .ref q_this_faceTold, .ref q_this_foreheadTold, .ref q_this_ageTold, .ref q_this_familyTold, .ref q_this_rains, .ref q_this_signsWears, .ref q_this_signsSits, .ref q_this_status, .ref q_this_tape, .int x_this_taped, .int x_this_at, .int x_this_size, .int x_this_token, .int x_this_number, .int x_this_begins, .int x_this_stops, .int x_this_bad, .int x_this_badPlace, .int x_this_faultPlace, .int x_this_ofSitting, .ref q_this_jaw, .ref q_this_brow, .ref q_this_stone, .ref q_this_face, .ref q_this_forehead, .ref q_this_age, .ref q_this_family, .ref q_this_seat, .ref q_this_past, .int x_this_yearNow, .int x_this_acts, .int x_this_seen, .ref q_this_asked, .ref q_this_stack, .int x_this_satDown, .ref q_this_rowThen, .ref q_this_leastBy, .ref q_this_seenWho, .ref q_this_seenIn, .ref q_this_seenJaw, .ref q_this_rowSeen, .ref q_this_fit, .ref q_this_seatThen, .int x_this_fitMany, .ref q_this_gains, .int x_this_seedNow, .int x_this_hasImage, .int x_this_actsThen, .int x_this_seenThen, .ref q_this_imageRow, .ref q_this_pastThen, .ref q_this_seenWhoThen, .ref q_this_seenInThen, .ref q_this_seenJawThen, .ref q_this_statusThen])), (q_this_told, .inl (ct 0, 12, .inl f_this_told)), (q_this_stone, .inl (ct 0, 8, .inl f_this_stone))] [.ref q_this] (fun r : Int32 => iv r (-1) 7 ∧ r = m_Model_mostStone f_this_told f_this_stone) := by
  refine cP_of (cc := cX12_mostStone) (maxL := 3) (by decide) rfl (Nat.le_of_ble_eq_true rfl) ?_
  intro p e s m args below meth c Q hx hb hml hts hown hK hP hE ls hl
  have hP : va_P D vwCl [(q_this, .inr (11, [.ref q_this_sorts, .ref q_this_ofWears, .ref q_this_ofSits, .ref q_this_values, .int x_this_code, .ref q_this_told, .ref q_this_jawTold, .ref q_this_browTold, .ref q_this_stoneTold, .ref q_this_orphan, .ref q_this_faceTold, .ref q_this_foreheadTold, .ref q_this_ageTold, .ref q_this_familyTold, .ref q_this_rains, .ref q_this_signsWears, .ref q_this_signsSits, .ref q_this_status, .ref q_this_tape, .int x_this_taped, .int x_this_at, .int x_this_size, .int x_this_token, .int x_this_number, .int x_this_begins, .int x_this_stops, .int x_this_bad, .int x_this_badPlace, .int x_this_faultPlace, .int x_this_ofSitting, .ref q_this_jaw, .ref q_this_brow, .ref q_this_stone, .ref q_this_face, .ref q_this_forehead, .ref q_this_age, .ref q_this_family, .ref q_this_seat, .ref q_this_past, .int x_this_yearNow, .int x_this_acts, .int x_this_seen, .ref q_this_asked, .ref q_this_stack, .int x_this_satDown, .ref q_this_rowThen, .ref q_this_leastBy, .ref q_this_seenWho, .ref q_this_seenIn, .ref q_this_seenJaw, .ref q_this_rowSeen, .ref q_this_fit, .ref q_this_seatThen, .int x_this_fitMany, .ref q_this_gains, .int x_this_seedNow, .int x_this_hasImage, .int x_this_actsThen, .int x_this_seenThen, .ref q_this_imageRow, .ref q_this_pastThen, .ref q_this_seenWhoThen, .ref q_this_seenInThen, .ref q_this_seenJawThen, .ref q_this_statusThen])), (q_this_told, .inl (ct 0, 12, .inl f_this_told)), (q_this_stone, .inl (ct 0, 8, .inl f_this_stone))] s.heap := hP
  have mG : ∀ (i : Nat) {w : Cond}, gT12[i]? = some w → w ∈ wgX12_mostStone := fun i w h => List.mem_cons_of_mem _ (List.mem_of_getElem? h)
  have hl : lv_has ls 3 [(0, .ref q_this)] := hl
  obtain ⟨R, hRe⟩ : ∃ R : (Int32), R = m_Model_mostStone f_this_told f_this_stone := ⟨_, rfl⟩
  have hR : uy_Q R (fun z : (Int32) => z) (m_Model_mostStone f_this_told f_this_stone) := hRe
  have hin_Model : ∀ w ∈ u_ws RX12 TX12 65, w ∈ wgX12_mostStone := fun w h => List.mem_cons_of_mem _ (ingT12_X12 w h)
  have K4 : ∀ (n4 : Nat) (v1c4 v2c4 : Int32) (ls : Array Slot), iv v1c4 (-1) 7 → iv v2c4 0 8 → (8 - v2c4.toInt).toNat < n4 → uy_Q R (fun z : (Int32) => z) (m_Model_mostStone_k4 f_this_told f_this_stone (v1c4, v2c4)) → lv_has ls 3 [(0, .ref q_this), (1, .int v1c4), (2, .int v2c4)] → W p l e rm_Model_mostStone s m args below meth c s.heap [] 0 0 Q (F0 m 4 ls []) := by
    intro n4
    induction n4 with
    | zero => intro v1c4 v2c4 ls i_v1c4 i_v2c4 hm4 hR hl; exact absurd hm4 (Nat.not_lt_zero _)
    | succ n4 ih4 =>
      intro v1c4 v2c4 ls i_v1c4 i_v2c4 hm4 hR hl
      replace hR : uy_Q R (uy_E (fun z : (Int32) => z) (m_Model_mostStone_k4 f_this_told f_this_stone)) (m_Model_mostStone_b4 f_this_told f_this_stone v1c4 v2c4) := uy_whs hR
      have K36 : ∀ (v1c36 v2c36 : Int32) (ls : Array Slot), iv v1c36 0 7 → iv v2c36 0 7 → (8 - v2c36.toInt).toNat < n4 + 1 → uy_Q R (uy_E (fun z : (Int32) => z) (m_Model_mostStone_k4 f_this_told f_this_stone)) (m_Model_mostStone_k36 f_this_told f_this_stone v1c36 v2c36) → lv_has ls 3 [(0, .ref q_this), (1, .int v1c36), (2, .int v2c36)] → W p l e rm_Model_mostStone s m args below meth c s.heap [] 0 0 Q (F0 m 36 ls []) := by
        intro v1c36 v2c36 ls i_v1c36 i_v2c36 hm4 hR hl
        delta m_Model_mostStone_k36 at hR
        obtain ⟨x1, ex1⟩ : ∃ z : Int32, z = v2c36 + (1 : Int32) := ⟨_, rfl⟩
        refine lv_iinc (v := x1) (lv' := [(2, .int x1), (0, .ref q_this), (1, .int v1c36)]) hx hb dX12_mostStone_36 hl (k := 2) rfl (by rw [ex1]; rfl) (by decide) rfl (fun ls hl => ?_)
        replace hR := uy_Ls ex1 hR
        have i_x1 : iv x1 1 8 := iv_add ex1 i_v2c36 (iv_lit (1 : Int32) (by decide) : iv (1 : Int32) 1 1) (by decide) (by decide) (by decide) (by decide)
        refine lv_goto (tgt := 4) hx hb dX12_mostStone_39 (by decide) ?_
        exact ih4 v1c36 x1 ls (iv_w i_v1c36 (by decide) (by decide)) (iv_w i_x1 (by decide) (by decide)) (ms_up ex1 i_v2c36 (by decide) (by decide) hm4) (uy_Ql hR) (lv_sub hl [1, 2, 0] rfl)
      have K34 : ∀ (v2c34 : Int32) (ls : Array Slot), iv v2c34 0 7 → (8 - v2c34.toInt).toNat < n4 + 1 → uy_Q R (uy_E (fun z : (Int32) => z) (m_Model_mostStone_k4 f_this_told f_this_stone)) (m_Model_mostStone_k34 f_this_told f_this_stone v2c34) → lv_has ls 3 [(0, .ref q_this), (2, .int v2c34)] → W p l e rm_Model_mostStone s m args below meth c s.heap [] 0 0 Q (F0 m 34 ls []) := by
        intro v2c34 ls i_v2c34 hm4 hR hl
        delta m_Model_mostStone_k34 at hR
        refine lv_iload_n hx hb dX12_mostStone_34 rfl (lv_at hl 1 rfl) ?_
        refine lv_istore_n (lv' := [(1, .int v2c34), (0, .ref q_this), (2, .int v2c34)]) hx hb dX12_mostStone_35 rfl hl (by decide) rfl (fun ls hl => ?_)
        exact K36 v2c34 v2c34 ls i_v2c34 i_v2c34 hm4 hR (lv_sub hl [1, 0, 2] rfl)
      delta m_Model_mostStone_b4 at hR
      refine lv_iload_n hx hb dX12_mostStone_4 rfl (lv_at hl 2 rfl) ?_
      refine lv_aload_n hx hb dX12_mostStone_5 rfl (lv_at hl 0 rfl) ?_
      refine va_get (D := D) (ci := 11) (v := .ref q_this_told) (C := RX12) (T := TX12) (N := 65) hx hb hts hin_Model hown hK hP 0 rfl rfl 5 (by decide) (hts (.fieldLink RX12 42 "GutterSeatsModel" "told" "[I") (List.mem_cons_of_mem _ (gm12 0 10 (by first | rfl | decide +kernel)))) (fun _ h9 => h9) rfl dX12_mostStone_6 ?_
      refine lv_iconst (v := 0) hx hb dX12_mostStone_9 (by decide) ?_
      have n2 : vp_in (0 : Int32) 12 := iv_in (iv_lit (0 : Int32) (by decide) : iv (0 : Int32) 0 0) (by decide) (by decide)
      refine va_iald hx hb hK hP 1 0 rfl rfl n2 dX12_mostStone_10 ?_
      refine lv_topi (fun x3 ex3 => ?_)
      replace hR := uy_Ls ex3 hR
      have i_x3 : iv x3 0 8 := by rw [ex3]; exact tv.1
      refine lv_icmp_ge (tgt := 42) hx hb dX12_mostStone_11 (by decide) (fun c4 => ?_) (fun c4 => ?_)
      ·
        replace hR := uy_Qp c4 hR
        refine lv_iload_n hx hb dX12_mostStone_42 rfl (lv_at hl 1 rfl) ?_
        exact hE _ _ _ ⟨i_v1c4, ((uy_Q0 (uy_Qr hR)).symm.trans hRe)⟩ dX12_mostStone_43
      ·
        replace hR := uy_Qn c4 hR
        have j5 : iv v2c4 0 7 := iv_ltL (iv_nle c4) i_v2c4 i_x3 (by decide)
        have j6 : iv x3 1 8 := iv_ltR (iv_nle c4) i_v2c4 i_x3 (by decide)
        refine lv_iload_n hx hb dX12_mostStone_14 rfl (lv_at hl 1 rfl) ?_
        refine lv_iconst (v := -1) hx hb dX12_mostStone_15 (by decide) ?_
        refine lv_icmp_eq (tgt := 34) hx hb dX12_mostStone_16 (by decide) (fun c7 => ?_) (fun c7 => ?_)
        ·
          replace hR := uy_Qp c7 hR
          have j8 : iv v1c4 (-1) (-1) := by rw [c7]; exact (iv_lit (-1 : Int32) (by decide) : iv (-1 : Int32) (-1) (-1))
          exact K34 v2c4 ls j5 hm4 hR (lv_sub hl [0, 2] rfl)
        ·
          replace hR := uy_Qn c7 hR
          have j9 : iv v1c4 0 7 := iv_neL c7 i_v1c4 rfl (by decide)
          refine lv_aload_n hx hb dX12_mostStone_19 rfl (lv_at hl 0 rfl) ?_
          refine va_get (D := D) (ci := 11) (v := .ref q_this_stone) (C := RX12) (T := TX12) (N := 65) hx hb hts hin_Model hown hK hP 0 rfl rfl 32 (by decide) (hts (.fieldLink RX12 94 "GutterSeatsModel" "stone" "[I") (List.mem_cons_of_mem _ (gm12 0 27 (by first | rfl | decide +kernel)))) (fun _ h9 => h9) rfl dX12_mostStone_20 ?_
          refine lv_iload_n hx hb dX12_mostStone_23 rfl (lv_at hl 2 rfl) ?_
          have n10 : vp_in v2c4 8 := iv_in j5 (by decide) (by decide)
          refine va_iald hx hb hK hP 2 0 rfl rfl n10 dX12_mostStone_24 ?_
          refine lv_topi (fun x11 ex11 => ?_)
          replace hR := uy_Ls ex11 hR
          refine lv_aload_n hx hb dX12_mostStone_25 rfl (lv_at hl 0 rfl) ?_
          refine va_get (D := D) (ci := 11) (v := .ref q_this_stone) (C := RX12) (T := TX12) (N := 65) hx hb hts hin_Model hown hK hP 0 rfl rfl 32 (by decide) (hts (.fieldLink RX12 94 "GutterSeatsModel" "stone" "[I") (List.mem_cons_of_mem _ (gm12 0 27 (by first | rfl | decide +kernel)))) (fun _ h9 => h9) rfl dX12_mostStone_26 ?_
          refine lv_iload_n hx hb dX12_mostStone_29 rfl (lv_at hl 1 rfl) ?_
          have n12 : vp_in v1c4 8 := iv_in j9 (by decide) (by decide)
          refine va_iald hx hb hK hP 2 0 rfl rfl n12 dX12_mostStone_30 ?_
          refine lv_topi (fun x13 ex13 => ?_)
          replace hR := uy_Ls ex13 hR
          refine lv_icmp_le (tgt := 36) hx hb dX12_mostStone_31 (by decide) (fun c14 => ?_) (fun c14 => ?_)
          ·
            replace hR := uy_Qp c14 hR
            exact K36 v1c4 v2c4 ls j9 j5 hm4 hR (lv_sub hl [0, 1, 2] rfl)
          ·
            replace hR := uy_Qn c14 hR
            have j15 : iv x13 (-2147483648) 2147483646 := iv_ltL (iv_nle c14) (iv_any x13) (iv_any x11) (by decide)
            have j16 : iv x11 (-2147483647) 2147483647 := iv_ltR (iv_nle c14) (iv_any x13) (iv_any x11) (by decide)
            exact K34 v2c4 ls j5 hm4 hR (lv_sub hl [0, 2] rfl)
  delta m_Model_mostStone at hR
  refine lv_iconst (v := -1) hx hb dX12_mostStone_0 (by decide) ?_
  refine lv_istore_n (lv' := [(1, .int (-1 : Int32)), (0, .ref q_this)]) hx hb dX12_mostStone_1 rfl hl (by decide) rfl (fun ls hl => ?_)
  refine lv_iconst (v := 0) hx hb dX12_mostStone_2 (by decide) ?_
  refine lv_istore_n (lv' := [(2, .int (0 : Int32)), (1, .int (-1 : Int32)), (0, .ref q_this)]) hx hb dX12_mostStone_3 rfl hl (by decide) rfl (fun ls hl => ?_)
  exact K4 _ (-1 : Int32) (0 : Int32) ls (iv_lit (-1 : Int32) (by decide) : iv (-1 : Int32) (-1) 7) (iv_lit (0 : Int32) (by decide) : iv (0 : Int32) 0 8) (Nat.lt_succ_self _) hR (lv_sub hl [2, 1, 0] rfl)
abbrev rm_Model_fault : Room := { frames := 0, cells := 0, slots := 0, locals := 0 }
abbrev wgX12_fault : List Cond := .code yX12_fault cX12_fault 1 (some .int) :: gT12
set_option maxHeartbeats 4000000 in
set_option maxRecDepth 100000 in
theorem c_Model_fault (l : Launch) (D : va_G) (ct : Nat → ClassId) (q_this q_this_sorts q_this_ofWears q_this_ofSits q_this_values q_this_told q_this_jawTold q_this_browTold q_this_stoneTold q_this_orphan q_this_faceTold q_this_foreheadTold q_this_ageTold q_this_familyTold q_this_rains q_this_signsWears q_this_signsSits q_this_status q_this_tape q_this_jaw q_this_brow q_this_stone q_this_face q_this_forehead q_this_age q_this_family q_this_seat q_this_past q_this_asked q_this_stack q_this_rowThen q_this_leastBy q_this_seenWho q_this_seenIn q_this_seenJaw q_this_rowSeen q_this_fit q_this_seatThen q_this_gains q_this_imageRow q_this_pastThen q_this_seenWhoThen q_this_seenInThen q_this_seenJawThen q_this_statusThen : Nat) (sz : Nat) (x_this_code x_this_taped x_this_at x_this_size x_this_token x_this_number x_this_begins x_this_stops x_this_bad x_this_badPlace x_this_faultPlace x_this_ofSitting x_this_yearNow x_this_acts x_this_seen x_this_satDown x_this_fitMany x_this_seedNow x_this_hasImage x_this_actsThen x_this_seenThen : Int32) (i_x_this_taped : iv x_this_taped 0 700) (i_x_this_ofSitting : iv x_this_ofSitting 0 1) (i_x_this_yearNow : iv x_this_yearNow 0 5000) (i_x_this_acts : iv x_this_acts 0 40) (i_x_this_seen : iv x_this_seen 0 8) (i_x_this_fitMany : iv x_this_fitMany 0 800) (i_x_this_hasImage : iv x_this_hasImage 0 1) (i_x_this_actsThen : iv x_this_actsThen 0 40) (i_x_this_seenThen : iv x_this_seenThen 0 8) : cI l yX12_fault wgX12_fault rm_Model_fault D ct [(q_this, .inr (11, [.ref q_this_sorts, .ref q_this_ofWears, .ref q_this_ofSits, .ref q_this_values, .int x_this_code, .ref q_this_told, .ref q_this_jawTold, .ref q_this_browTold, .ref q_this_stoneTold, .ref q_this_orphan, .ref q_this_faceTold, .ref q_this_foreheadTold, .ref q_this_ageTold, .ref q_this_familyTold, .ref q_this_rains, .ref q_this_signsWears, .ref q_this_signsSits, .ref q_this_status, .ref q_this_tape, .int x_this_taped, .int x_this_at, .int x_this_size, .int x_this_token, .int x_this_number, .int x_this_begins, .int x_this_stops, .int x_this_bad, .int x_this_badPlace, .int x_this_faultPlace, .int x_this_ofSitting, .ref q_this_jaw, .ref q_this_brow, .ref q_this_stone, .ref q_this_face, .ref q_this_forehead, .ref q_this_age, .ref q_this_family, .ref q_this_seat, .ref q_this_past, .int x_this_yearNow, .int x_this_acts, .int x_this_seen, .ref q_this_asked, .ref q_this_stack, .int x_this_satDown, .ref q_this_rowThen, .ref q_this_leastBy, .ref q_this_seenWho, .ref q_this_seenIn, .ref q_this_seenJaw, .ref q_this_rowSeen, .ref q_this_fit, .ref q_this_seatThen, .int x_this_fitMany, .ref q_this_gains, .int x_this_seedNow, .int x_this_hasImage, .int x_this_actsThen, .int x_this_seenThen, .ref q_this_imageRow, .ref q_this_pastThen, .ref q_this_seenWhoThen, .ref q_this_seenInThen, .ref q_this_seenJawThen, .ref q_this_statusThen]))] sz [.ref q_this] (fun (r : Int32) (u : Int32) => r = x_this_faultPlace ∧ (r, u) = m_Model_fault x_this_faultPlace) (fun u : Int32 => [(q_this, .inr (11, [.ref q_this_sorts, .ref q_this_ofWears, .ref q_this_ofSits, .ref q_this_values, .int u, .ref q_this_told, .ref q_this_jawTold, .ref q_this_browTold, .ref q_this_stoneTold, .ref q_this_orphan, .ref q_this_faceTold, .ref q_this_foreheadTold, .ref q_this_ageTold, .ref q_this_familyTold, .ref q_this_rains, .ref q_this_signsWears, .ref q_this_signsSits, .ref q_this_status, .ref q_this_tape, .int x_this_taped, .int x_this_at, .int x_this_size, .int x_this_token, .int x_this_number, .int x_this_begins, .int x_this_stops, .int x_this_bad, .int x_this_badPlace, .int x_this_faultPlace, .int x_this_ofSitting, .ref q_this_jaw, .ref q_this_brow, .ref q_this_stone, .ref q_this_face, .ref q_this_forehead, .ref q_this_age, .ref q_this_family, .ref q_this_seat, .ref q_this_past, .int x_this_yearNow, .int x_this_acts, .int x_this_seen, .ref q_this_asked, .ref q_this_stack, .int x_this_satDown, .ref q_this_rowThen, .ref q_this_leastBy, .ref q_this_seenWho, .ref q_this_seenIn, .ref q_this_seenJaw, .ref q_this_rowSeen, .ref q_this_fit, .ref q_this_seatThen, .int x_this_fitMany, .ref q_this_gains, .int x_this_seedNow, .int x_this_hasImage, .int x_this_actsThen, .int x_this_seenThen, .ref q_this_imageRow, .ref q_this_pastThen, .ref q_this_seenWhoThen, .ref q_this_seenInThen, .ref q_this_seenJawThen, .ref q_this_statusThen]))]) := by
  refine cI_of (cc := cX12_fault) (maxL := 1) (by decide) rfl (Nat.le_of_ble_eq_true rfl) ?_
  intro p e s m args below meth c Q A hx hb hml hts hown hK hP hD hA hAe hsz hname hE ls hl
  have hS : va_S A s.heap s.heap [] := va_S.rf
  have hP : va_P D vwCl [(q_this, .inr (11, [.ref q_this_sorts, .ref q_this_ofWears, .ref q_this_ofSits, .ref q_this_values, .int x_this_code, .ref q_this_told, .ref q_this_jawTold, .ref q_this_browTold, .ref q_this_stoneTold, .ref q_this_orphan, .ref q_this_faceTold, .ref q_this_foreheadTold, .ref q_this_ageTold, .ref q_this_familyTold, .ref q_this_rains, .ref q_this_signsWears, .ref q_this_signsSits, .ref q_this_status, .ref q_this_tape, .int x_this_taped, .int x_this_at, .int x_this_size, .int x_this_token, .int x_this_number, .int x_this_begins, .int x_this_stops, .int x_this_bad, .int x_this_badPlace, .int x_this_faultPlace, .int x_this_ofSitting, .ref q_this_jaw, .ref q_this_brow, .ref q_this_stone, .ref q_this_face, .ref q_this_forehead, .ref q_this_age, .ref q_this_family, .ref q_this_seat, .ref q_this_past, .int x_this_yearNow, .int x_this_acts, .int x_this_seen, .ref q_this_asked, .ref q_this_stack, .int x_this_satDown, .ref q_this_rowThen, .ref q_this_leastBy, .ref q_this_seenWho, .ref q_this_seenIn, .ref q_this_seenJaw, .ref q_this_rowSeen, .ref q_this_fit, .ref q_this_seatThen, .int x_this_fitMany, .ref q_this_gains, .int x_this_seedNow, .int x_this_hasImage, .int x_this_actsThen, .int x_this_seenThen, .ref q_this_imageRow, .ref q_this_pastThen, .ref q_this_seenWhoThen, .ref q_this_seenInThen, .ref q_this_seenJawThen, .ref q_this_statusThen]))] s.heap := hP
  have hD : va_D A [(q_this, .inr (11, [.ref q_this_sorts, .ref q_this_ofWears, .ref q_this_ofSits, .ref q_this_values, .int x_this_code, .ref q_this_told, .ref q_this_jawTold, .ref q_this_browTold, .ref q_this_stoneTold, .ref q_this_orphan, .ref q_this_faceTold, .ref q_this_foreheadTold, .ref q_this_ageTold, .ref q_this_familyTold, .ref q_this_rains, .ref q_this_signsWears, .ref q_this_signsSits, .ref q_this_status, .ref q_this_tape, .int x_this_taped, .int x_this_at, .int x_this_size, .int x_this_token, .int x_this_number, .int x_this_begins, .int x_this_stops, .int x_this_bad, .int x_this_badPlace, .int x_this_faultPlace, .int x_this_ofSitting, .ref q_this_jaw, .ref q_this_brow, .ref q_this_stone, .ref q_this_face, .ref q_this_forehead, .ref q_this_age, .ref q_this_family, .ref q_this_seat, .ref q_this_past, .int x_this_yearNow, .int x_this_acts, .int x_this_seen, .ref q_this_asked, .ref q_this_stack, .int x_this_satDown, .ref q_this_rowThen, .ref q_this_leastBy, .ref q_this_seenWho, .ref q_this_seenIn, .ref q_this_seenJaw, .ref q_this_rowSeen, .ref q_this_fit, .ref q_this_seatThen, .int x_this_fitMany, .ref q_this_gains, .int x_this_seedNow, .int x_this_hasImage, .int x_this_actsThen, .int x_this_seenThen, .ref q_this_imageRow, .ref q_this_pastThen, .ref q_this_seenWhoThen, .ref q_this_seenInThen, .ref q_this_seenJawThen, .ref q_this_statusThen]))] := hD
  have mG : ∀ (i : Nat) {w : Cond}, gT12[i]? = some w → w ∈ wgX12_fault := fun i w h => List.mem_cons_of_mem _ (List.mem_of_getElem? h)
  have hl : lv_has ls 1 [(0, .ref q_this)] := hl
  obtain ⟨R, hRe⟩ : ∃ R : (Int32 × Int32), R = m_Model_fault x_this_faultPlace := ⟨_, rfl⟩
  have hR : uy_Q R (fun z : (Int32 × Int32) => z) (m_Model_fault x_this_faultPlace) := hRe
  have hin_Model : ∀ w ∈ u_ws RX12 TX12 65, w ∈ wgX12_fault := fun w h => List.mem_cons_of_mem _ (ingT12_X12 w h)
  delta m_Model_fault at hR
  refine lv_aload_n hx hb dX12_fault_0 rfl (lv_at hl 0 rfl) ?_
  refine lv_iconst (v := 0) hx hb dX12_fault_1 (by decide) ?_
  refine va_put (D := D) (ci := 11) (v := .int (0 : Int32)) (ty := .int) (C := RX12) (T := TX12) (N := 65) hx hb hts hin_Model tyX12 tyX12_ok nmX12 hown hK hP hD hS 0 rfl rfl 4 (by decide) (hts (.fieldLink RX12 163 "GutterSeatsModel" "code" "I") (List.mem_cons_of_mem _ (gm12 0 52 (by first | rfl | decide +kernel)))) (fun _ h9 => h9) rfl (by first | exact tyX12_ok 4 (by decide) | decide +kernel) rfl rfl (Nat.le_of_ble_eq_true rfl) dX12_fault_2 (fun H locs hP hD hS => ?_)
  have hP : va_P D vwCl [(q_this, .inr (11, [.ref q_this_sorts, .ref q_this_ofWears, .ref q_this_ofSits, .ref q_this_values, .int (0 : Int32), .ref q_this_told, .ref q_this_jawTold, .ref q_this_browTold, .ref q_this_stoneTold, .ref q_this_orphan, .ref q_this_faceTold, .ref q_this_foreheadTold, .ref q_this_ageTold, .ref q_this_familyTold, .ref q_this_rains, .ref q_this_signsWears, .ref q_this_signsSits, .ref q_this_status, .ref q_this_tape, .int x_this_taped, .int x_this_at, .int x_this_size, .int x_this_token, .int x_this_number, .int x_this_begins, .int x_this_stops, .int x_this_bad, .int x_this_badPlace, .int x_this_faultPlace, .int x_this_ofSitting, .ref q_this_jaw, .ref q_this_brow, .ref q_this_stone, .ref q_this_face, .ref q_this_forehead, .ref q_this_age, .ref q_this_family, .ref q_this_seat, .ref q_this_past, .int x_this_yearNow, .int x_this_acts, .int x_this_seen, .ref q_this_asked, .ref q_this_stack, .int x_this_satDown, .ref q_this_rowThen, .ref q_this_leastBy, .ref q_this_seenWho, .ref q_this_seenIn, .ref q_this_seenJaw, .ref q_this_rowSeen, .ref q_this_fit, .ref q_this_seatThen, .int x_this_fitMany, .ref q_this_gains, .int x_this_seedNow, .int x_this_hasImage, .int x_this_actsThen, .int x_this_seenThen, .ref q_this_imageRow, .ref q_this_pastThen, .ref q_this_seenWhoThen, .ref q_this_seenInThen, .ref q_this_seenJawThen, .ref q_this_statusThen]))] H := hP
  have hD : va_D A [(q_this, .inr (11, [.ref q_this_sorts, .ref q_this_ofWears, .ref q_this_ofSits, .ref q_this_values, .int (0 : Int32), .ref q_this_told, .ref q_this_jawTold, .ref q_this_browTold, .ref q_this_stoneTold, .ref q_this_orphan, .ref q_this_faceTold, .ref q_this_foreheadTold, .ref q_this_ageTold, .ref q_this_familyTold, .ref q_this_rains, .ref q_this_signsWears, .ref q_this_signsSits, .ref q_this_status, .ref q_this_tape, .int x_this_taped, .int x_this_at, .int x_this_size, .int x_this_token, .int x_this_number, .int x_this_begins, .int x_this_stops, .int x_this_bad, .int x_this_badPlace, .int x_this_faultPlace, .int x_this_ofSitting, .ref q_this_jaw, .ref q_this_brow, .ref q_this_stone, .ref q_this_face, .ref q_this_forehead, .ref q_this_age, .ref q_this_family, .ref q_this_seat, .ref q_this_past, .int x_this_yearNow, .int x_this_acts, .int x_this_seen, .ref q_this_asked, .ref q_this_stack, .int x_this_satDown, .ref q_this_rowThen, .ref q_this_leastBy, .ref q_this_seenWho, .ref q_this_seenIn, .ref q_this_seenJaw, .ref q_this_rowSeen, .ref q_this_fit, .ref q_this_seatThen, .int x_this_fitMany, .ref q_this_gains, .int x_this_seedNow, .int x_this_hasImage, .int x_this_actsThen, .int x_this_seenThen, .ref q_this_imageRow, .ref q_this_pastThen, .ref q_this_seenWhoThen, .ref q_this_seenInThen, .ref q_this_seenJawThen, .ref q_this_statusThen]))] := hD
  refine lv_aload_n hx hb dX12_fault_5 rfl (lv_at hl 0 rfl) ?_
  refine va_get (D := D) (ci := 11) (v := .int x_this_faultPlace) (C := RX12) (T := TX12) (N := 65) hx hb hts hin_Model hown hK hP 0 rfl rfl 28 (by decide) (hts (.fieldLink RX12 84 "GutterSeatsModel" "faultPlace" "I") (List.mem_cons_of_mem _ (gm12 0 24 (by first | rfl | decide +kernel)))) (fun _ h9 => h9) rfl dX12_fault_6 ?_
  exact hE _ (0 : Int32) _ _ _ _ ⟨(show x_this_faultPlace = x_this_faultPlace from rfl), ((uy_Q0 hR).symm.trans hRe)⟩ hP hD hS dX12_fault_9
abbrev rm_Model_homes : Room := { frames := 0, cells := 0, slots := 0, locals := 0 }
abbrev wgX12_homes : List Cond := .code yX12_homes cX12_homes 3 (some .int) :: gT12
set_option maxHeartbeats 4000000 in
set_option maxRecDepth 100000 in
theorem c_Model_homes (l : Launch) (D : va_G) (ct : Nat → ClassId) (q_this q_this_told q_this_family q_this_seat q_this_sorts q_this_ofWears q_this_ofSits q_this_values q_this_jawTold q_this_browTold q_this_stoneTold q_this_orphan q_this_faceTold q_this_foreheadTold q_this_ageTold q_this_familyTold q_this_rains q_this_signsWears q_this_signsSits q_this_status q_this_tape q_this_jaw q_this_brow q_this_stone q_this_face q_this_forehead q_this_age q_this_past q_this_asked q_this_stack q_this_rowThen q_this_leastBy q_this_seenWho q_this_seenIn q_this_seenJaw q_this_rowSeen q_this_fit q_this_seatThen q_this_gains q_this_imageRow q_this_pastThen q_this_seenWhoThen q_this_seenInThen q_this_seenJawThen q_this_statusThen : Nat) (sz : Nat) (x_this_code x_this_taped x_this_at x_this_size x_this_token x_this_number x_this_begins x_this_stops x_this_bad x_this_badPlace x_this_faultPlace x_this_ofSitting x_this_yearNow x_this_acts x_this_seen x_this_satDown x_this_fitMany x_this_seedNow x_this_hasImage x_this_actsThen x_this_seenThen : Int32) (f_this_told f_this_family f_this_seat : Nat → Int32) (i_x_this_taped : iv x_this_taped 0 700) (i_x_this_ofSitting : iv x_this_ofSitting 0 1) (i_x_this_yearNow : iv x_this_yearNow 0 5000) (i_x_this_acts : iv x_this_acts 0 40) (i_x_this_seen : iv x_this_seen 0 8) (i_x_this_fitMany : iv x_this_fitMany 0 800) (i_x_this_hasImage : iv x_this_hasImage 0 1) (i_x_this_actsThen : iv x_this_actsThen 0 40) (i_x_this_seenThen : iv x_this_seenThen 0 8) (a_f_this_family : av f_this_family 8 (-1) 7) (a_f_this_seat : av f_this_seat 8 (-1) 7) (tv : tv f_this_told) : cI l yX12_homes wgX12_homes rm_Model_homes D ct [(q_this, .inr (11, [.ref q_this_sorts, .ref q_this_ofWears, .ref q_this_ofSits, .ref q_this_values, .int x_this_code, .ref q_this_told, .ref q_this_jawTold, .ref q_this_browTold, .ref q_this_stoneTold, .ref q_this_orphan, .ref q_this_faceTold, .ref q_this_foreheadTold, .ref q_this_ageTold, .ref q_this_familyTold, .ref q_this_rains, .ref q_this_signsWears, .ref q_this_signsSits, .ref q_this_status, .ref q_this_tape, .int x_this_taped, .int x_this_at, .int x_this_size, .int x_this_token, .int x_this_number, .int x_this_begins, .int x_this_stops, .int x_this_bad, .int x_this_badPlace, .int x_this_faultPlace, .int x_this_ofSitting, .ref q_this_jaw, .ref q_this_brow, .ref q_this_stone, .ref q_this_face, .ref q_this_forehead, .ref q_this_age, .ref q_this_family, .ref q_this_seat, .ref q_this_past, .int x_this_yearNow, .int x_this_acts, .int x_this_seen, .ref q_this_asked, .ref q_this_stack, .int x_this_satDown, .ref q_this_rowThen, .ref q_this_leastBy, .ref q_this_seenWho, .ref q_this_seenIn, .ref q_this_seenJaw, .ref q_this_rowSeen, .ref q_this_fit, .ref q_this_seatThen, .int x_this_fitMany, .ref q_this_gains, .int x_this_seedNow, .int x_this_hasImage, .int x_this_actsThen, .int x_this_seenThen, .ref q_this_imageRow, .ref q_this_pastThen, .ref q_this_seenWhoThen, .ref q_this_seenInThen, .ref q_this_seenJawThen, .ref q_this_statusThen])), (q_this_told, .inl (ct 0, 12, .inl f_this_told)), (q_this_family, .inl (ct 0, 8, .inl f_this_family)), (q_this_seat, .inl (ct 0, 8, .inl f_this_seat))] sz [.ref q_this] (fun (r : Int32) (u : Int32) => (r, u) = m_Model_homes f_this_told f_this_family f_this_seat) (fun u : Int32 => [(q_this, .inr (11, [.ref q_this_sorts, .ref q_this_ofWears, .ref q_this_ofSits, .ref q_this_values, .int u, .ref q_this_told, .ref q_this_jawTold, .ref q_this_browTold, .ref q_this_stoneTold, .ref q_this_orphan, .ref q_this_faceTold, .ref q_this_foreheadTold, .ref q_this_ageTold, .ref q_this_familyTold, .ref q_this_rains, .ref q_this_signsWears, .ref q_this_signsSits, .ref q_this_status, .ref q_this_tape, .int x_this_taped, .int x_this_at, .int x_this_size, .int x_this_token, .int x_this_number, .int x_this_begins, .int x_this_stops, .int x_this_bad, .int x_this_badPlace, .int x_this_faultPlace, .int x_this_ofSitting, .ref q_this_jaw, .ref q_this_brow, .ref q_this_stone, .ref q_this_face, .ref q_this_forehead, .ref q_this_age, .ref q_this_family, .ref q_this_seat, .ref q_this_past, .int x_this_yearNow, .int x_this_acts, .int x_this_seen, .ref q_this_asked, .ref q_this_stack, .int x_this_satDown, .ref q_this_rowThen, .ref q_this_leastBy, .ref q_this_seenWho, .ref q_this_seenIn, .ref q_this_seenJaw, .ref q_this_rowSeen, .ref q_this_fit, .ref q_this_seatThen, .int x_this_fitMany, .ref q_this_gains, .int x_this_seedNow, .int x_this_hasImage, .int x_this_actsThen, .int x_this_seenThen, .ref q_this_imageRow, .ref q_this_pastThen, .ref q_this_seenWhoThen, .ref q_this_seenInThen, .ref q_this_seenJawThen, .ref q_this_statusThen])), (q_this_told, .inl (ct 0, 12, .inl f_this_told)), (q_this_family, .inl (ct 0, 8, .inl f_this_family)), (q_this_seat, .inl (ct 0, 8, .inl f_this_seat))]) := by
  refine cI_of (cc := cX12_homes) (maxL := 3) (by decide) rfl (Nat.le_of_ble_eq_true rfl) ?_
  intro p e s m args below meth c Q A hx hb hml hts hown hK hP hD hA hAe hsz hname hE ls hl
  have hS : va_S A s.heap s.heap [] := va_S.rf
  have hP : va_P D vwCl [(q_this, .inr (11, [.ref q_this_sorts, .ref q_this_ofWears, .ref q_this_ofSits, .ref q_this_values, .int x_this_code, .ref q_this_told, .ref q_this_jawTold, .ref q_this_browTold, .ref q_this_stoneTold, .ref q_this_orphan, .ref q_this_faceTold, .ref q_this_foreheadTold, .ref q_this_ageTold, .ref q_this_familyTold, .ref q_this_rains, .ref q_this_signsWears, .ref q_this_signsSits, .ref q_this_status, .ref q_this_tape, .int x_this_taped, .int x_this_at, .int x_this_size, .int x_this_token, .int x_this_number, .int x_this_begins, .int x_this_stops, .int x_this_bad, .int x_this_badPlace, .int x_this_faultPlace, .int x_this_ofSitting, .ref q_this_jaw, .ref q_this_brow, .ref q_this_stone, .ref q_this_face, .ref q_this_forehead, .ref q_this_age, .ref q_this_family, .ref q_this_seat, .ref q_this_past, .int x_this_yearNow, .int x_this_acts, .int x_this_seen, .ref q_this_asked, .ref q_this_stack, .int x_this_satDown, .ref q_this_rowThen, .ref q_this_leastBy, .ref q_this_seenWho, .ref q_this_seenIn, .ref q_this_seenJaw, .ref q_this_rowSeen, .ref q_this_fit, .ref q_this_seatThen, .int x_this_fitMany, .ref q_this_gains, .int x_this_seedNow, .int x_this_hasImage, .int x_this_actsThen, .int x_this_seenThen, .ref q_this_imageRow, .ref q_this_pastThen, .ref q_this_seenWhoThen, .ref q_this_seenInThen, .ref q_this_seenJawThen, .ref q_this_statusThen])), (q_this_told, .inl (ct 0, 12, .inl f_this_told)), (q_this_family, .inl (ct 0, 8, .inl f_this_family)), (q_this_seat, .inl (ct 0, 8, .inl f_this_seat))] s.heap := hP
  have hD : va_D A [(q_this, .inr (11, [.ref q_this_sorts, .ref q_this_ofWears, .ref q_this_ofSits, .ref q_this_values, .int x_this_code, .ref q_this_told, .ref q_this_jawTold, .ref q_this_browTold, .ref q_this_stoneTold, .ref q_this_orphan, .ref q_this_faceTold, .ref q_this_foreheadTold, .ref q_this_ageTold, .ref q_this_familyTold, .ref q_this_rains, .ref q_this_signsWears, .ref q_this_signsSits, .ref q_this_status, .ref q_this_tape, .int x_this_taped, .int x_this_at, .int x_this_size, .int x_this_token, .int x_this_number, .int x_this_begins, .int x_this_stops, .int x_this_bad, .int x_this_badPlace, .int x_this_faultPlace, .int x_this_ofSitting, .ref q_this_jaw, .ref q_this_brow, .ref q_this_stone, .ref q_this_face, .ref q_this_forehead, .ref q_this_age, .ref q_this_family, .ref q_this_seat, .ref q_this_past, .int x_this_yearNow, .int x_this_acts, .int x_this_seen, .ref q_this_asked, .ref q_this_stack, .int x_this_satDown, .ref q_this_rowThen, .ref q_this_leastBy, .ref q_this_seenWho, .ref q_this_seenIn, .ref q_this_seenJaw, .ref q_this_rowSeen, .ref q_this_fit, .ref q_this_seatThen, .int x_this_fitMany, .ref q_this_gains, .int x_this_seedNow, .int x_this_hasImage, .int x_this_actsThen, .int x_this_seenThen, .ref q_this_imageRow, .ref q_this_pastThen, .ref q_this_seenWhoThen, .ref q_this_seenInThen, .ref q_this_seenJawThen, .ref q_this_statusThen])), (q_this_told, .inl (ct 0, 12, .inl f_this_told)), (q_this_family, .inl (ct 0, 8, .inl f_this_family)), (q_this_seat, .inl (ct 0, 8, .inl f_this_seat))] := hD
  have mG : ∀ (i : Nat) {w : Cond}, gT12[i]? = some w → w ∈ wgX12_homes := fun i w h => List.mem_cons_of_mem _ (List.mem_of_getElem? h)
  have hl : lv_has ls 3 [(0, .ref q_this)] := hl
  obtain ⟨R, hRe⟩ : ∃ R : (Int32 × Int32), R = m_Model_homes f_this_told f_this_family f_this_seat := ⟨_, rfl⟩
  have hR : uy_Q R (fun z : (Int32 × Int32) => z) (m_Model_homes f_this_told f_this_family f_this_seat) := hRe
  have hin_Model : ∀ w ∈ u_ws RX12 TX12 65, w ∈ wgX12_homes := fun w h => List.mem_cons_of_mem _ (ingT12_X12 w h)
  have K9 : ∀ (n9 : Nat) (x_this_codec9 v1c9 v2c9 : Int32) (H : Heap) (locs : List Loc) (ls : Array Slot), iv v1c9 0 255 → iv v2c9 0 8 → (8 - v2c9.toInt).toNat < n9 → uy_Q R (fun z : (Int32 × Int32) => z) (m_Model_homes_k9 f_this_told f_this_family f_this_seat (x_this_codec9, v1c9, v2c9)) → va_P D vwCl [(q_this, .inr (11, [.ref q_this_sorts, .ref q_this_ofWears, .ref q_this_ofSits, .ref q_this_values, .int x_this_codec9, .ref q_this_told, .ref q_this_jawTold, .ref q_this_browTold, .ref q_this_stoneTold, .ref q_this_orphan, .ref q_this_faceTold, .ref q_this_foreheadTold, .ref q_this_ageTold, .ref q_this_familyTold, .ref q_this_rains, .ref q_this_signsWears, .ref q_this_signsSits, .ref q_this_status, .ref q_this_tape, .int x_this_taped, .int x_this_at, .int x_this_size, .int x_this_token, .int x_this_number, .int x_this_begins, .int x_this_stops, .int x_this_bad, .int x_this_badPlace, .int x_this_faultPlace, .int x_this_ofSitting, .ref q_this_jaw, .ref q_this_brow, .ref q_this_stone, .ref q_this_face, .ref q_this_forehead, .ref q_this_age, .ref q_this_family, .ref q_this_seat, .ref q_this_past, .int x_this_yearNow, .int x_this_acts, .int x_this_seen, .ref q_this_asked, .ref q_this_stack, .int x_this_satDown, .ref q_this_rowThen, .ref q_this_leastBy, .ref q_this_seenWho, .ref q_this_seenIn, .ref q_this_seenJaw, .ref q_this_rowSeen, .ref q_this_fit, .ref q_this_seatThen, .int x_this_fitMany, .ref q_this_gains, .int x_this_seedNow, .int x_this_hasImage, .int x_this_actsThen, .int x_this_seenThen, .ref q_this_imageRow, .ref q_this_pastThen, .ref q_this_seenWhoThen, .ref q_this_seenInThen, .ref q_this_seenJawThen, .ref q_this_statusThen])), (q_this_told, .inl (ct 0, 12, .inl f_this_told)), (q_this_family, .inl (ct 0, 8, .inl f_this_family)), (q_this_seat, .inl (ct 0, 8, .inl f_this_seat))] H → va_D A [(q_this, .inr (11, [.ref q_this_sorts, .ref q_this_ofWears, .ref q_this_ofSits, .ref q_this_values, .int x_this_codec9, .ref q_this_told, .ref q_this_jawTold, .ref q_this_browTold, .ref q_this_stoneTold, .ref q_this_orphan, .ref q_this_faceTold, .ref q_this_foreheadTold, .ref q_this_ageTold, .ref q_this_familyTold, .ref q_this_rains, .ref q_this_signsWears, .ref q_this_signsSits, .ref q_this_status, .ref q_this_tape, .int x_this_taped, .int x_this_at, .int x_this_size, .int x_this_token, .int x_this_number, .int x_this_begins, .int x_this_stops, .int x_this_bad, .int x_this_badPlace, .int x_this_faultPlace, .int x_this_ofSitting, .ref q_this_jaw, .ref q_this_brow, .ref q_this_stone, .ref q_this_face, .ref q_this_forehead, .ref q_this_age, .ref q_this_family, .ref q_this_seat, .ref q_this_past, .int x_this_yearNow, .int x_this_acts, .int x_this_seen, .ref q_this_asked, .ref q_this_stack, .int x_this_satDown, .ref q_this_rowThen, .ref q_this_leastBy, .ref q_this_seenWho, .ref q_this_seenIn, .ref q_this_seenJaw, .ref q_this_rowSeen, .ref q_this_fit, .ref q_this_seatThen, .int x_this_fitMany, .ref q_this_gains, .int x_this_seedNow, .int x_this_hasImage, .int x_this_actsThen, .int x_this_seenThen, .ref q_this_imageRow, .ref q_this_pastThen, .ref q_this_seenWhoThen, .ref q_this_seenInThen, .ref q_this_seenJawThen, .ref q_this_statusThen])), (q_this_told, .inl (ct 0, 12, .inl f_this_told)), (q_this_family, .inl (ct 0, 8, .inl f_this_family)), (q_this_seat, .inl (ct 0, 8, .inl f_this_seat))] → va_S A s.heap H locs → lv_has ls 3 [(0, .ref q_this), (1, .int v1c9), (2, .int v2c9)] → W p l e rm_Model_homes s m args below meth c H locs 0 0 Q (F0 m 9 ls []) := by
    intro n9
    induction n9 with
    | zero => intro x_this_codec9 v1c9 v2c9 H locs ls i_v1c9 i_v2c9 hm9 hR hP hD hS hl; exact absurd hm9 (Nat.not_lt_zero _)
    | succ n9 ih9 =>
      intro x_this_codec9 v1c9 v2c9 H locs ls i_v1c9 i_v2c9 hm9 hR hP hD hS hl
      replace hR : uy_Q R (uy_E (fun z : (Int32 × Int32) => z) (m_Model_homes_k9 f_this_told f_this_family f_this_seat)) (m_Model_homes_b9 f_this_told f_this_family f_this_seat x_this_codec9 v1c9 v2c9) := uy_whs hR
      have K52 : ∀ (x_this_codec52 v2c52 s0c52 s1c52 : Int32) (H : Heap) (locs : List Loc) (ls : Array Slot), iv v2c52 0 7 → iv s0c52 0 128 → iv s1c52 0 255 → (8 - v2c52.toInt).toNat < n9 + 1 → uy_Q R (uy_E (fun z : (Int32 × Int32) => z) (m_Model_homes_k9 f_this_told f_this_family f_this_seat)) (m_Model_homes_k52 f_this_told f_this_family f_this_seat x_this_codec52 v2c52 s0c52 s1c52) → va_P D vwCl [(q_this, .inr (11, [.ref q_this_sorts, .ref q_this_ofWears, .ref q_this_ofSits, .ref q_this_values, .int x_this_codec52, .ref q_this_told, .ref q_this_jawTold, .ref q_this_browTold, .ref q_this_stoneTold, .ref q_this_orphan, .ref q_this_faceTold, .ref q_this_foreheadTold, .ref q_this_ageTold, .ref q_this_familyTold, .ref q_this_rains, .ref q_this_signsWears, .ref q_this_signsSits, .ref q_this_status, .ref q_this_tape, .int x_this_taped, .int x_this_at, .int x_this_size, .int x_this_token, .int x_this_number, .int x_this_begins, .int x_this_stops, .int x_this_bad, .int x_this_badPlace, .int x_this_faultPlace, .int x_this_ofSitting, .ref q_this_jaw, .ref q_this_brow, .ref q_this_stone, .ref q_this_face, .ref q_this_forehead, .ref q_this_age, .ref q_this_family, .ref q_this_seat, .ref q_this_past, .int x_this_yearNow, .int x_this_acts, .int x_this_seen, .ref q_this_asked, .ref q_this_stack, .int x_this_satDown, .ref q_this_rowThen, .ref q_this_leastBy, .ref q_this_seenWho, .ref q_this_seenIn, .ref q_this_seenJaw, .ref q_this_rowSeen, .ref q_this_fit, .ref q_this_seatThen, .int x_this_fitMany, .ref q_this_gains, .int x_this_seedNow, .int x_this_hasImage, .int x_this_actsThen, .int x_this_seenThen, .ref q_this_imageRow, .ref q_this_pastThen, .ref q_this_seenWhoThen, .ref q_this_seenInThen, .ref q_this_seenJawThen, .ref q_this_statusThen])), (q_this_told, .inl (ct 0, 12, .inl f_this_told)), (q_this_family, .inl (ct 0, 8, .inl f_this_family)), (q_this_seat, .inl (ct 0, 8, .inl f_this_seat))] H → va_D A [(q_this, .inr (11, [.ref q_this_sorts, .ref q_this_ofWears, .ref q_this_ofSits, .ref q_this_values, .int x_this_codec52, .ref q_this_told, .ref q_this_jawTold, .ref q_this_browTold, .ref q_this_stoneTold, .ref q_this_orphan, .ref q_this_faceTold, .ref q_this_foreheadTold, .ref q_this_ageTold, .ref q_this_familyTold, .ref q_this_rains, .ref q_this_signsWears, .ref q_this_signsSits, .ref q_this_status, .ref q_this_tape, .int x_this_taped, .int x_this_at, .int x_this_size, .int x_this_token, .int x_this_number, .int x_this_begins, .int x_this_stops, .int x_this_bad, .int x_this_badPlace, .int x_this_faultPlace, .int x_this_ofSitting, .ref q_this_jaw, .ref q_this_brow, .ref q_this_stone, .ref q_this_face, .ref q_this_forehead, .ref q_this_age, .ref q_this_family, .ref q_this_seat, .ref q_this_past, .int x_this_yearNow, .int x_this_acts, .int x_this_seen, .ref q_this_asked, .ref q_this_stack, .int x_this_satDown, .ref q_this_rowThen, .ref q_this_leastBy, .ref q_this_seenWho, .ref q_this_seenIn, .ref q_this_seenJaw, .ref q_this_rowSeen, .ref q_this_fit, .ref q_this_seatThen, .int x_this_fitMany, .ref q_this_gains, .int x_this_seedNow, .int x_this_hasImage, .int x_this_actsThen, .int x_this_seenThen, .ref q_this_imageRow, .ref q_this_pastThen, .ref q_this_seenWhoThen, .ref q_this_seenInThen, .ref q_this_seenJawThen, .ref q_this_statusThen])), (q_this_told, .inl (ct 0, 12, .inl f_this_told)), (q_this_family, .inl (ct 0, 8, .inl f_this_family)), (q_this_seat, .inl (ct 0, 8, .inl f_this_seat))] → va_S A s.heap H locs → lv_has ls 3 [(0, .ref q_this), (2, .int v2c52)] → W p l e rm_Model_homes s m args below meth c H locs 0 0 Q (F0 m 52 ls [.int s0c52, .int s1c52]) := by
        intro x_this_codec52 v2c52 s0c52 s1c52 H locs ls i_v2c52 i_s0c52 i_s1c52 hm9 hR hP hD hS hl
        delta m_Model_homes_k52 at hR
        refine lv_ior hx hb dX12_homes_52 ?_
        refine lv_topi (fun x1 ex1 => ?_)
        replace hR := uy_Ls ex1 hR
        have i_x1 : iv x1 0 255 := iv_or 8 ex1 (iv_w i_s1c52 (by decide) (by decide) : iv _ 0 255) (iv_w i_s0c52 (by decide) (by decide) : iv _ 0 128) (by decide) (by decide) (by decide)
        refine lv_istore_n (lv' := [(1, .int x1), (0, .ref q_this), (2, .int v2c52)]) hx hb dX12_homes_53 rfl hl (by decide) rfl (fun ls hl => ?_)
        obtain ⟨x2, ex2⟩ : ∃ z : Int32, z = v2c52 + (1 : Int32) := ⟨_, rfl⟩
        refine lv_iinc (v := x2) (lv' := [(2, .int x2), (1, .int x1), (0, .ref q_this)]) hx hb dX12_homes_54 hl (k := 2) rfl (by rw [ex2]; rfl) (by decide) rfl (fun ls hl => ?_)
        replace hR := uy_Ls ex2 hR
        have i_x2 : iv x2 1 8 := iv_add ex2 i_v2c52 (iv_lit (1 : Int32) (by decide) : iv (1 : Int32) 1 1) (by decide) (by decide) (by decide) (by decide)
        refine lv_goto (tgt := 9) hx hb dX12_homes_57 (by decide) ?_
        exact ih9 x_this_codec52 x1 x2 _ _ ls i_x1 (iv_w i_x2 (by decide) (by decide)) (ms_up ex2 i_v2c52 (by decide) (by decide) hm9) (uy_Ql hR) hP hD hS (lv_sub hl [2, 1, 0] rfl)
      have K51 : ∀ (x_this_codec51 v2c51 s0c51 : Int32) (H : Heap) (locs : List Loc) (ls : Array Slot), iv v2c51 0 7 → iv s0c51 0 255 → (8 - v2c51.toInt).toNat < n9 + 1 → uy_Q R (uy_E (fun z : (Int32 × Int32) => z) (m_Model_homes_k9 f_this_told f_this_family f_this_seat)) (m_Model_homes_k51 f_this_told f_this_family f_this_seat x_this_codec51 v2c51 s0c51) → va_P D vwCl [(q_this, .inr (11, [.ref q_this_sorts, .ref q_this_ofWears, .ref q_this_ofSits, .ref q_this_values, .int x_this_codec51, .ref q_this_told, .ref q_this_jawTold, .ref q_this_browTold, .ref q_this_stoneTold, .ref q_this_orphan, .ref q_this_faceTold, .ref q_this_foreheadTold, .ref q_this_ageTold, .ref q_this_familyTold, .ref q_this_rains, .ref q_this_signsWears, .ref q_this_signsSits, .ref q_this_status, .ref q_this_tape, .int x_this_taped, .int x_this_at, .int x_this_size, .int x_this_token, .int x_this_number, .int x_this_begins, .int x_this_stops, .int x_this_bad, .int x_this_badPlace, .int x_this_faultPlace, .int x_this_ofSitting, .ref q_this_jaw, .ref q_this_brow, .ref q_this_stone, .ref q_this_face, .ref q_this_forehead, .ref q_this_age, .ref q_this_family, .ref q_this_seat, .ref q_this_past, .int x_this_yearNow, .int x_this_acts, .int x_this_seen, .ref q_this_asked, .ref q_this_stack, .int x_this_satDown, .ref q_this_rowThen, .ref q_this_leastBy, .ref q_this_seenWho, .ref q_this_seenIn, .ref q_this_seenJaw, .ref q_this_rowSeen, .ref q_this_fit, .ref q_this_seatThen, .int x_this_fitMany, .ref q_this_gains, .int x_this_seedNow, .int x_this_hasImage, .int x_this_actsThen, .int x_this_seenThen, .ref q_this_imageRow, .ref q_this_pastThen, .ref q_this_seenWhoThen, .ref q_this_seenInThen, .ref q_this_seenJawThen, .ref q_this_statusThen])), (q_this_told, .inl (ct 0, 12, .inl f_this_told)), (q_this_family, .inl (ct 0, 8, .inl f_this_family)), (q_this_seat, .inl (ct 0, 8, .inl f_this_seat))] H → va_D A [(q_this, .inr (11, [.ref q_this_sorts, .ref q_this_ofWears, .ref q_this_ofSits, .ref q_this_values, .int x_this_codec51, .ref q_this_told, .ref q_this_jawTold, .ref q_this_browTold, .ref q_this_stoneTold, .ref q_this_orphan, .ref q_this_faceTold, .ref q_this_foreheadTold, .ref q_this_ageTold, .ref q_this_familyTold, .ref q_this_rains, .ref q_this_signsWears, .ref q_this_signsSits, .ref q_this_status, .ref q_this_tape, .int x_this_taped, .int x_this_at, .int x_this_size, .int x_this_token, .int x_this_number, .int x_this_begins, .int x_this_stops, .int x_this_bad, .int x_this_badPlace, .int x_this_faultPlace, .int x_this_ofSitting, .ref q_this_jaw, .ref q_this_brow, .ref q_this_stone, .ref q_this_face, .ref q_this_forehead, .ref q_this_age, .ref q_this_family, .ref q_this_seat, .ref q_this_past, .int x_this_yearNow, .int x_this_acts, .int x_this_seen, .ref q_this_asked, .ref q_this_stack, .int x_this_satDown, .ref q_this_rowThen, .ref q_this_leastBy, .ref q_this_seenWho, .ref q_this_seenIn, .ref q_this_seenJaw, .ref q_this_rowSeen, .ref q_this_fit, .ref q_this_seatThen, .int x_this_fitMany, .ref q_this_gains, .int x_this_seedNow, .int x_this_hasImage, .int x_this_actsThen, .int x_this_seenThen, .ref q_this_imageRow, .ref q_this_pastThen, .ref q_this_seenWhoThen, .ref q_this_seenInThen, .ref q_this_seenJawThen, .ref q_this_statusThen])), (q_this_told, .inl (ct 0, 12, .inl f_this_told)), (q_this_family, .inl (ct 0, 8, .inl f_this_family)), (q_this_seat, .inl (ct 0, 8, .inl f_this_seat))] → va_S A s.heap H locs → lv_has ls 3 [(0, .ref q_this), (2, .int v2c51)] → W p l e rm_Model_homes s m args below meth c H locs 0 0 Q (F0 m 51 ls [.int s0c51]) := by
        intro x_this_codec51 v2c51 s0c51 H locs ls i_v2c51 i_s0c51 hm9 hR hP hD hS hl
        delta m_Model_homes_k51 at hR
        refine lv_iconst (v := 0) hx hb dX12_homes_51 (by decide) ?_
        exact K52 x_this_codec51 v2c51 (0 : Int32) s0c51 _ _ ls i_v2c51 (iv_lit (0 : Int32) (by decide) : iv (0 : Int32) 0 128) i_s0c51 hm9 hR hP hD hS (lv_sub hl [0, 1] rfl)
      delta m_Model_homes_b9 at hR
      refine lv_iload_n hx hb dX12_homes_9 rfl (lv_at hl 2 rfl) ?_
      refine lv_aload_n hx hb dX12_homes_10 rfl (lv_at hl 0 rfl) ?_
      refine va_get (D := D) (ci := 11) (v := .ref q_this_told) (C := RX12) (T := TX12) (N := 65) hx hb hts hin_Model hown hK hP 0 rfl rfl 5 (by decide) (hts (.fieldLink RX12 42 "GutterSeatsModel" "told" "[I") (List.mem_cons_of_mem _ (gm12 0 10 (by first | rfl | decide +kernel)))) (fun _ h9 => h9) rfl dX12_homes_11 ?_
      refine lv_iconst (v := 1) hx hb dX12_homes_14 (by decide) ?_
      have n3 : vp_in (1 : Int32) 12 := iv_in (iv_lit (1 : Int32) (by decide) : iv (1 : Int32) 1 1) (by decide) (by decide)
      refine va_iald hx hb hK hP 1 0 rfl rfl n3 dX12_homes_15 ?_
      refine lv_topi (fun x4 ex4 => ?_)
      replace hR := uy_Ls ex4 hR
      have i_x4 : iv x4 0 8 := by rw [ex4]; exact tv.2.1
      refine lv_icmp_ge (tgt := 60) hx hb dX12_homes_16 (by decide) (fun c5 => ?_) (fun c5 => ?_)
      ·
        replace hR := uy_Qp c5 hR
        refine lv_iload_n hx hb dX12_homes_60 rfl (lv_at hl 1 rfl) ?_
        exact hE _ x_this_codec9 _ _ _ _ ((uy_Q0 (uy_Qr hR)).symm.trans hRe) hP hD hS dX12_homes_61
      ·
        replace hR := uy_Qn c5 hR
        have j6 : iv v2c9 0 7 := iv_ltL (iv_nle c5) i_v2c9 i_x4 (by decide)
        have j7 : iv x4 1 8 := iv_ltR (iv_nle c5) i_v2c9 i_x4 (by decide)
        refine lv_iload_n hx hb dX12_homes_19 rfl (lv_at hl 1 rfl) ?_
        refine lv_aload_n hx hb dX12_homes_20 rfl (lv_at hl 0 rfl) ?_
        refine va_get (D := D) (ci := 11) (v := .ref q_this_seat) (C := RX12) (T := TX12) (N := 65) hx hb hts hin_Model hown hK hP 0 rfl rfl 37 (by decide) (hts (.fieldLink RX12 106 "GutterSeatsModel" "seat" "[I") (List.mem_cons_of_mem _ (gm12 0 32 (by first | rfl | decide +kernel)))) (fun _ h9 => h9) rfl dX12_homes_21 ?_
        refine lv_iload_n hx hb dX12_homes_24 rfl (lv_at hl 2 rfl) ?_
        have n8 : vp_in v2c9 8 := iv_in j6 (by decide) (by decide)
        refine va_iald hx hb hK hP 3 0 rfl rfl n8 dX12_homes_25 ?_
        refine lv_topi (fun x9 ex9 => ?_)
        replace hR := uy_Ls ex9 hR
        have i_x9 : iv x9 (-1) 7 := by rw [ex9]; exact av_get a_f_this_seat n8
        refine lv_iconst (v := -1) hx hb dX12_homes_26 (by decide) ?_
        refine lv_icmp_eq (tgt := 51) hx hb dX12_homes_27 (by decide) (fun c10 => ?_) (fun c10 => ?_)
        ·
          replace hR := uy_Qp c10 hR
          have j11 : iv x9 (-1) (-1) := by rw [c10]; exact (iv_lit (-1 : Int32) (by decide) : iv (-1 : Int32) (-1) (-1))
          exact K51 x_this_codec9 v2c9 v1c9 _ _ ls j6 i_v1c9 hm9 hR hP hD hS (lv_sub hl [0, 2] rfl)
        ·
          replace hR := uy_Qn c10 hR
          have j12 : iv x9 0 7 := iv_neL c10 i_x9 rfl (by decide)
          refine lv_aload_n hx hb dX12_homes_30 rfl (lv_at hl 0 rfl) ?_
          refine va_get (D := D) (ci := 11) (v := .ref q_this_seat) (C := RX12) (T := TX12) (N := 65) hx hb hts hin_Model hown hK hP 0 rfl rfl 37 (by decide) (hts (.fieldLink RX12 106 "GutterSeatsModel" "seat" "[I") (List.mem_cons_of_mem _ (gm12 0 32 (by first | rfl | decide +kernel)))) (fun _ h9 => h9) rfl dX12_homes_31 ?_
          refine lv_iload_n hx hb dX12_homes_34 rfl (lv_at hl 2 rfl) ?_
          have n13 : vp_in v2c9 8 := iv_in j6 (by decide) (by decide)
          refine va_iald hx hb hK hP 3 0 rfl rfl n13 dX12_homes_35 ?_
          refine lv_tope ex9.symm ?_
          refine lv_aload_n hx hb dX12_homes_36 rfl (lv_at hl 0 rfl) ?_
          refine va_get (D := D) (ci := 11) (v := .ref q_this_family) (C := RX12) (T := TX12) (N := 65) hx hb hts hin_Model hown hK hP 0 rfl rfl 36 (by decide) (hts (.fieldLink RX12 104 "GutterSeatsModel" "family" "[I") (List.mem_cons_of_mem _ (gm12 0 31 (by first | rfl | decide +kernel)))) (fun _ h9 => h9) rfl dX12_homes_37 ?_
          refine lv_iload_n hx hb dX12_homes_40 rfl (lv_at hl 2 rfl) ?_
          have n14 : vp_in v2c9 8 := iv_in j6 (by decide) (by decide)
          refine va_iald hx hb hK hP 2 0 rfl rfl n14 dX12_homes_41 ?_
          refine lv_topi (fun x15 ex15 => ?_)
          replace hR := uy_Ls ex15 hR
          have i_x15 : iv x15 (-1) 7 := by rw [ex15]; exact av_get a_f_this_family n14
          refine lv_icmp_ne (tgt := 51) hx hb dX12_homes_42 (by decide) (fun c16 => ?_) (fun c16 => ?_)
          ·
            replace hR := uy_Qn c16 hR
            exact K51 x_this_codec9 v2c9 v1c9 _ _ ls j6 i_v1c9 hm9 hR hP hD hS (lv_sub hl [0, 2] rfl)
          ·
            replace hR := uy_Qp c16 hR
            have j17 : iv x15 0 7 := by rw [← c16]; exact j12
            refine lv_iconst (v := 1) hx hb dX12_homes_45 (by decide) ?_
            refine lv_iload_n hx hb dX12_homes_46 rfl (lv_at hl 2 rfl) ?_
            refine lv_ishl hx hb dX12_homes_47 ?_
            refine lv_topi (fun x18 ex18 => ?_)
            replace hR := uy_Ls ex18 hR
            have i_x18 : iv x18 1 128 := iv_shl1 ex18 j6 (by decide) (by decide) (by decide) (by decide)
            refine lv_goto (tgt := 52) hx hb dX12_homes_48 (by decide) ?_
            exact K52 x_this_codec9 v2c9 x18 v1c9 _ _ ls j6 (iv_w i_x18 (by decide) (by decide)) i_v1c9 hm9 hR hP hD hS (lv_sub hl [0, 2] rfl)
  delta m_Model_homes at hR
  refine lv_aload_n hx hb dX12_homes_0 rfl (lv_at hl 0 rfl) ?_
  refine lv_iconst (v := 0) hx hb dX12_homes_1 (by decide) ?_
  refine va_put (D := D) (ci := 11) (v := .int (0 : Int32)) (ty := .int) (C := RX12) (T := TX12) (N := 65) hx hb hts hin_Model tyX12 tyX12_ok nmX12 hown hK hP hD hS 0 rfl rfl 4 (by decide) (hts (.fieldLink RX12 163 "GutterSeatsModel" "code" "I") (List.mem_cons_of_mem _ (gm12 0 52 (by first | rfl | decide +kernel)))) (fun _ h9 => h9) rfl (by first | exact tyX12_ok 4 (by decide) | decide +kernel) rfl rfl (Nat.le_of_ble_eq_true rfl) dX12_homes_2 (fun H locs hP hD hS => ?_)
  have hP : va_P D vwCl [(q_this, .inr (11, [.ref q_this_sorts, .ref q_this_ofWears, .ref q_this_ofSits, .ref q_this_values, .int (0 : Int32), .ref q_this_told, .ref q_this_jawTold, .ref q_this_browTold, .ref q_this_stoneTold, .ref q_this_orphan, .ref q_this_faceTold, .ref q_this_foreheadTold, .ref q_this_ageTold, .ref q_this_familyTold, .ref q_this_rains, .ref q_this_signsWears, .ref q_this_signsSits, .ref q_this_status, .ref q_this_tape, .int x_this_taped, .int x_this_at, .int x_this_size, .int x_this_token, .int x_this_number, .int x_this_begins, .int x_this_stops, .int x_this_bad, .int x_this_badPlace, .int x_this_faultPlace, .int x_this_ofSitting, .ref q_this_jaw, .ref q_this_brow, .ref q_this_stone, .ref q_this_face, .ref q_this_forehead, .ref q_this_age, .ref q_this_family, .ref q_this_seat, .ref q_this_past, .int x_this_yearNow, .int x_this_acts, .int x_this_seen, .ref q_this_asked, .ref q_this_stack, .int x_this_satDown, .ref q_this_rowThen, .ref q_this_leastBy, .ref q_this_seenWho, .ref q_this_seenIn, .ref q_this_seenJaw, .ref q_this_rowSeen, .ref q_this_fit, .ref q_this_seatThen, .int x_this_fitMany, .ref q_this_gains, .int x_this_seedNow, .int x_this_hasImage, .int x_this_actsThen, .int x_this_seenThen, .ref q_this_imageRow, .ref q_this_pastThen, .ref q_this_seenWhoThen, .ref q_this_seenInThen, .ref q_this_seenJawThen, .ref q_this_statusThen])), (q_this_told, .inl (ct 0, 12, .inl f_this_told)), (q_this_family, .inl (ct 0, 8, .inl f_this_family)), (q_this_seat, .inl (ct 0, 8, .inl f_this_seat))] H := hP
  have hD : va_D A [(q_this, .inr (11, [.ref q_this_sorts, .ref q_this_ofWears, .ref q_this_ofSits, .ref q_this_values, .int (0 : Int32), .ref q_this_told, .ref q_this_jawTold, .ref q_this_browTold, .ref q_this_stoneTold, .ref q_this_orphan, .ref q_this_faceTold, .ref q_this_foreheadTold, .ref q_this_ageTold, .ref q_this_familyTold, .ref q_this_rains, .ref q_this_signsWears, .ref q_this_signsSits, .ref q_this_status, .ref q_this_tape, .int x_this_taped, .int x_this_at, .int x_this_size, .int x_this_token, .int x_this_number, .int x_this_begins, .int x_this_stops, .int x_this_bad, .int x_this_badPlace, .int x_this_faultPlace, .int x_this_ofSitting, .ref q_this_jaw, .ref q_this_brow, .ref q_this_stone, .ref q_this_face, .ref q_this_forehead, .ref q_this_age, .ref q_this_family, .ref q_this_seat, .ref q_this_past, .int x_this_yearNow, .int x_this_acts, .int x_this_seen, .ref q_this_asked, .ref q_this_stack, .int x_this_satDown, .ref q_this_rowThen, .ref q_this_leastBy, .ref q_this_seenWho, .ref q_this_seenIn, .ref q_this_seenJaw, .ref q_this_rowSeen, .ref q_this_fit, .ref q_this_seatThen, .int x_this_fitMany, .ref q_this_gains, .int x_this_seedNow, .int x_this_hasImage, .int x_this_actsThen, .int x_this_seenThen, .ref q_this_imageRow, .ref q_this_pastThen, .ref q_this_seenWhoThen, .ref q_this_seenInThen, .ref q_this_seenJawThen, .ref q_this_statusThen])), (q_this_told, .inl (ct 0, 12, .inl f_this_told)), (q_this_family, .inl (ct 0, 8, .inl f_this_family)), (q_this_seat, .inl (ct 0, 8, .inl f_this_seat))] := hD
  refine lv_iconst (v := 0) hx hb dX12_homes_5 (by decide) ?_
  refine lv_istore_n (lv' := [(1, .int (0 : Int32)), (0, .ref q_this)]) hx hb dX12_homes_6 rfl hl (by decide) rfl (fun ls hl => ?_)
  refine lv_iconst (v := 0) hx hb dX12_homes_7 (by decide) ?_
  refine lv_istore_n (lv' := [(2, .int (0 : Int32)), (1, .int (0 : Int32)), (0, .ref q_this)]) hx hb dX12_homes_8 rfl hl (by decide) rfl (fun ls hl => ?_)
  exact K9 _ (0 : Int32) (0 : Int32) (0 : Int32) _ _ ls (iv_lit (0 : Int32) (by decide) : iv (0 : Int32) 0 255) (iv_lit (0 : Int32) (by decide) : iv (0 : Int32) 0 8) (Nat.lt_succ_self _) hR hP hD hS (lv_sub hl [2, 1, 0] rfl)
abbrev rm_Model_refuse : Room := { frames := 0, cells := 0, slots := 0, locals := 0 }
abbrev wgX12_refuse : List Cond := .code yX12_refuse cX12_refuse 2 (some .int) :: gT12
set_option maxHeartbeats 4000000 in
set_option maxRecDepth 100000 in
theorem c_Model_refuse (l : Launch) (D : va_G) (ct : Nat → ClassId) (q_this q_this_status q_this_sorts q_this_ofWears q_this_ofSits q_this_values q_this_told q_this_jawTold q_this_browTold q_this_stoneTold q_this_orphan q_this_faceTold q_this_foreheadTold q_this_ageTold q_this_familyTold q_this_rains q_this_signsWears q_this_signsSits q_this_tape q_this_jaw q_this_brow q_this_stone q_this_face q_this_forehead q_this_age q_this_family q_this_seat q_this_past q_this_asked q_this_stack q_this_rowThen q_this_leastBy q_this_seenWho q_this_seenIn q_this_seenJaw q_this_rowSeen q_this_fit q_this_seatThen q_this_gains q_this_imageRow q_this_pastThen q_this_seenWhoThen q_this_seenInThen q_this_seenJawThen q_this_statusThen : Nat) (sz : Nat) (x_this_code x_this_taped x_this_at x_this_size x_this_token x_this_number x_this_begins x_this_stops x_this_bad x_this_badPlace x_this_faultPlace x_this_ofSitting x_this_yearNow x_this_acts x_this_seen x_this_satDown x_this_fitMany x_this_seedNow x_this_hasImage x_this_actsThen x_this_seenThen : Int32) (f_this_status : Nat → Int32) (p1 : Int32) (i_x_this_taped : iv x_this_taped 0 700) (i_x_this_ofSitting : iv x_this_ofSitting 0 1) (i_x_this_yearNow : iv x_this_yearNow 0 5000) (i_x_this_acts : iv x_this_acts 0 40) (i_x_this_seen : iv x_this_seen 0 8) (i_x_this_fitMany : iv x_this_fitMany 0 800) (i_x_this_hasImage : iv x_this_hasImage 0 1) (i_x_this_actsThen : iv x_this_actsThen 0 40) (i_x_this_seenThen : iv x_this_seenThen 0 8) (i_p1 : iv p1 0 2) : cI l yX12_refuse wgX12_refuse rm_Model_refuse D ct [(q_this, .inr (11, [.ref q_this_sorts, .ref q_this_ofWears, .ref q_this_ofSits, .ref q_this_values, .int x_this_code, .ref q_this_told, .ref q_this_jawTold, .ref q_this_browTold, .ref q_this_stoneTold, .ref q_this_orphan, .ref q_this_faceTold, .ref q_this_foreheadTold, .ref q_this_ageTold, .ref q_this_familyTold, .ref q_this_rains, .ref q_this_signsWears, .ref q_this_signsSits, .ref q_this_status, .ref q_this_tape, .int x_this_taped, .int x_this_at, .int x_this_size, .int x_this_token, .int x_this_number, .int x_this_begins, .int x_this_stops, .int x_this_bad, .int x_this_badPlace, .int x_this_faultPlace, .int x_this_ofSitting, .ref q_this_jaw, .ref q_this_brow, .ref q_this_stone, .ref q_this_face, .ref q_this_forehead, .ref q_this_age, .ref q_this_family, .ref q_this_seat, .ref q_this_past, .int x_this_yearNow, .int x_this_acts, .int x_this_seen, .ref q_this_asked, .ref q_this_stack, .int x_this_satDown, .ref q_this_rowThen, .ref q_this_leastBy, .ref q_this_seenWho, .ref q_this_seenIn, .ref q_this_seenJaw, .ref q_this_rowSeen, .ref q_this_fit, .ref q_this_seatThen, .int x_this_fitMany, .ref q_this_gains, .int x_this_seedNow, .int x_this_hasImage, .int x_this_actsThen, .int x_this_seenThen, .ref q_this_imageRow, .ref q_this_pastThen, .ref q_this_seenWhoThen, .ref q_this_seenInThen, .ref q_this_seenJawThen, .ref q_this_statusThen])), (q_this_status, .inl (ct 0, 3, .inl f_this_status))] sz [.ref q_this, .int p1] (fun (r : Int32) (u : (Nat → Int32)) => iv r (-1) (-1) ∧ (r, u) = m_Model_refuse f_this_status p1) (fun u : (Nat → Int32) => [(q_this, .inr (11, [.ref q_this_sorts, .ref q_this_ofWears, .ref q_this_ofSits, .ref q_this_values, .int x_this_code, .ref q_this_told, .ref q_this_jawTold, .ref q_this_browTold, .ref q_this_stoneTold, .ref q_this_orphan, .ref q_this_faceTold, .ref q_this_foreheadTold, .ref q_this_ageTold, .ref q_this_familyTold, .ref q_this_rains, .ref q_this_signsWears, .ref q_this_signsSits, .ref q_this_status, .ref q_this_tape, .int x_this_taped, .int x_this_at, .int x_this_size, .int x_this_token, .int x_this_number, .int x_this_begins, .int x_this_stops, .int x_this_bad, .int x_this_badPlace, .int x_this_faultPlace, .int x_this_ofSitting, .ref q_this_jaw, .ref q_this_brow, .ref q_this_stone, .ref q_this_face, .ref q_this_forehead, .ref q_this_age, .ref q_this_family, .ref q_this_seat, .ref q_this_past, .int x_this_yearNow, .int x_this_acts, .int x_this_seen, .ref q_this_asked, .ref q_this_stack, .int x_this_satDown, .ref q_this_rowThen, .ref q_this_leastBy, .ref q_this_seenWho, .ref q_this_seenIn, .ref q_this_seenJaw, .ref q_this_rowSeen, .ref q_this_fit, .ref q_this_seatThen, .int x_this_fitMany, .ref q_this_gains, .int x_this_seedNow, .int x_this_hasImage, .int x_this_actsThen, .int x_this_seenThen, .ref q_this_imageRow, .ref q_this_pastThen, .ref q_this_seenWhoThen, .ref q_this_seenInThen, .ref q_this_seenJawThen, .ref q_this_statusThen])), (q_this_status, .inl (ct 0, 3, .inl u))]) := by
  refine cI_of (cc := cX12_refuse) (maxL := 2) (by decide) rfl (Nat.le_of_ble_eq_true rfl) ?_
  intro p e s m args below meth c Q A hx hb hml hts hown hK hP hD hA hAe hsz hname hE ls hl
  have hS : va_S A s.heap s.heap [] := va_S.rf
  have hP : va_P D vwCl [(q_this, .inr (11, [.ref q_this_sorts, .ref q_this_ofWears, .ref q_this_ofSits, .ref q_this_values, .int x_this_code, .ref q_this_told, .ref q_this_jawTold, .ref q_this_browTold, .ref q_this_stoneTold, .ref q_this_orphan, .ref q_this_faceTold, .ref q_this_foreheadTold, .ref q_this_ageTold, .ref q_this_familyTold, .ref q_this_rains, .ref q_this_signsWears, .ref q_this_signsSits, .ref q_this_status, .ref q_this_tape, .int x_this_taped, .int x_this_at, .int x_this_size, .int x_this_token, .int x_this_number, .int x_this_begins, .int x_this_stops, .int x_this_bad, .int x_this_badPlace, .int x_this_faultPlace, .int x_this_ofSitting, .ref q_this_jaw, .ref q_this_brow, .ref q_this_stone, .ref q_this_face, .ref q_this_forehead, .ref q_this_age, .ref q_this_family, .ref q_this_seat, .ref q_this_past, .int x_this_yearNow, .int x_this_acts, .int x_this_seen, .ref q_this_asked, .ref q_this_stack, .int x_this_satDown, .ref q_this_rowThen, .ref q_this_leastBy, .ref q_this_seenWho, .ref q_this_seenIn, .ref q_this_seenJaw, .ref q_this_rowSeen, .ref q_this_fit, .ref q_this_seatThen, .int x_this_fitMany, .ref q_this_gains, .int x_this_seedNow, .int x_this_hasImage, .int x_this_actsThen, .int x_this_seenThen, .ref q_this_imageRow, .ref q_this_pastThen, .ref q_this_seenWhoThen, .ref q_this_seenInThen, .ref q_this_seenJawThen, .ref q_this_statusThen])), (q_this_status, .inl (ct 0, 3, .inl f_this_status))] s.heap := hP
  have hD : va_D A [(q_this, .inr (11, [.ref q_this_sorts, .ref q_this_ofWears, .ref q_this_ofSits, .ref q_this_values, .int x_this_code, .ref q_this_told, .ref q_this_jawTold, .ref q_this_browTold, .ref q_this_stoneTold, .ref q_this_orphan, .ref q_this_faceTold, .ref q_this_foreheadTold, .ref q_this_ageTold, .ref q_this_familyTold, .ref q_this_rains, .ref q_this_signsWears, .ref q_this_signsSits, .ref q_this_status, .ref q_this_tape, .int x_this_taped, .int x_this_at, .int x_this_size, .int x_this_token, .int x_this_number, .int x_this_begins, .int x_this_stops, .int x_this_bad, .int x_this_badPlace, .int x_this_faultPlace, .int x_this_ofSitting, .ref q_this_jaw, .ref q_this_brow, .ref q_this_stone, .ref q_this_face, .ref q_this_forehead, .ref q_this_age, .ref q_this_family, .ref q_this_seat, .ref q_this_past, .int x_this_yearNow, .int x_this_acts, .int x_this_seen, .ref q_this_asked, .ref q_this_stack, .int x_this_satDown, .ref q_this_rowThen, .ref q_this_leastBy, .ref q_this_seenWho, .ref q_this_seenIn, .ref q_this_seenJaw, .ref q_this_rowSeen, .ref q_this_fit, .ref q_this_seatThen, .int x_this_fitMany, .ref q_this_gains, .int x_this_seedNow, .int x_this_hasImage, .int x_this_actsThen, .int x_this_seenThen, .ref q_this_imageRow, .ref q_this_pastThen, .ref q_this_seenWhoThen, .ref q_this_seenInThen, .ref q_this_seenJawThen, .ref q_this_statusThen])), (q_this_status, .inl (ct 0, 3, .inl f_this_status))] := hD
  have mG : ∀ (i : Nat) {w : Cond}, gT12[i]? = some w → w ∈ wgX12_refuse := fun i w h => List.mem_cons_of_mem _ (List.mem_of_getElem? h)
  have hl : lv_has ls 2 [(0, .ref q_this), (1, .int p1)] := hl
  obtain ⟨R, hRe⟩ : ∃ R : (Int32 × (Nat → Int32)), R = m_Model_refuse f_this_status p1 := ⟨_, rfl⟩
  have hR : uy_Q R (fun z : (Int32 × (Nat → Int32)) => z) (m_Model_refuse f_this_status p1) := hRe
  have hin_Model : ∀ w ∈ u_ws RX12 TX12 65, w ∈ wgX12_refuse := fun w h => List.mem_cons_of_mem _ (ingT12_X12 w h)
  delta m_Model_refuse at hR
  refine lv_aload_n hx hb dX12_refuse_0 rfl (lv_at hl 0 rfl) ?_
  refine va_get (D := D) (ci := 11) (v := .ref q_this_status) (C := RX12) (T := TX12) (N := 65) hx hb hts hin_Model hown hK hP 0 rfl rfl 17 (by decide) (hts (.fieldLink RX12 78 "GutterSeatsModel" "status" "[I") (List.mem_cons_of_mem _ (gm12 0 22 (by first | rfl | decide +kernel)))) (fun _ h9 => h9) rfl dX12_refuse_1 ?_
  refine lv_iload_n hx hb dX12_refuse_4 rfl (lv_at hl 1 rfl) ?_
  refine lv_dup2_11 hx hb dX12_refuse_5 rfl rfl ?_
  have n1 : vp_in p1 3 := iv_in i_p1 (by decide) (by decide)
  refine va_iald hx hb hK hP 1 0 rfl rfl n1 dX12_refuse_6 ?_
  refine lv_topi (fun x2 ex2 => ?_)
  replace hR := uy_Ls ex2 hR
  refine lv_iconst (v := 1) hx hb dX12_refuse_7 (by decide) ?_
  refine lv_iadd hx hb dX12_refuse_8 ?_
  refine lv_topi (fun x3 ex3 => ?_)
  replace hR := uy_Ls ex3 hR
  have n4 : vp_in p1 3 := iv_in i_p1 (by decide) (by decide)
  refine va_iast hx hb hK hP hD hS 1 0 rfl rfl n4 dX12_refuse_9 (fun H locs hP hD hS => ?_)
  obtain ⟨f5, ef5⟩ : ∃ z : Nat → Int32, z = upd f_this_status p1.toNatClampNeg x3 := ⟨_, rfl⟩
  replace hR := uy_Ls ef5 hR
  rw [← ef5] at hP hD
  have hP : va_P D vwCl [(q_this, .inr (11, [.ref q_this_sorts, .ref q_this_ofWears, .ref q_this_ofSits, .ref q_this_values, .int x_this_code, .ref q_this_told, .ref q_this_jawTold, .ref q_this_browTold, .ref q_this_stoneTold, .ref q_this_orphan, .ref q_this_faceTold, .ref q_this_foreheadTold, .ref q_this_ageTold, .ref q_this_familyTold, .ref q_this_rains, .ref q_this_signsWears, .ref q_this_signsSits, .ref q_this_status, .ref q_this_tape, .int x_this_taped, .int x_this_at, .int x_this_size, .int x_this_token, .int x_this_number, .int x_this_begins, .int x_this_stops, .int x_this_bad, .int x_this_badPlace, .int x_this_faultPlace, .int x_this_ofSitting, .ref q_this_jaw, .ref q_this_brow, .ref q_this_stone, .ref q_this_face, .ref q_this_forehead, .ref q_this_age, .ref q_this_family, .ref q_this_seat, .ref q_this_past, .int x_this_yearNow, .int x_this_acts, .int x_this_seen, .ref q_this_asked, .ref q_this_stack, .int x_this_satDown, .ref q_this_rowThen, .ref q_this_leastBy, .ref q_this_seenWho, .ref q_this_seenIn, .ref q_this_seenJaw, .ref q_this_rowSeen, .ref q_this_fit, .ref q_this_seatThen, .int x_this_fitMany, .ref q_this_gains, .int x_this_seedNow, .int x_this_hasImage, .int x_this_actsThen, .int x_this_seenThen, .ref q_this_imageRow, .ref q_this_pastThen, .ref q_this_seenWhoThen, .ref q_this_seenInThen, .ref q_this_seenJawThen, .ref q_this_statusThen])), (q_this_status, .inl (ct 0, 3, .inl f5))] H := hP
  have hD : va_D A [(q_this, .inr (11, [.ref q_this_sorts, .ref q_this_ofWears, .ref q_this_ofSits, .ref q_this_values, .int x_this_code, .ref q_this_told, .ref q_this_jawTold, .ref q_this_browTold, .ref q_this_stoneTold, .ref q_this_orphan, .ref q_this_faceTold, .ref q_this_foreheadTold, .ref q_this_ageTold, .ref q_this_familyTold, .ref q_this_rains, .ref q_this_signsWears, .ref q_this_signsSits, .ref q_this_status, .ref q_this_tape, .int x_this_taped, .int x_this_at, .int x_this_size, .int x_this_token, .int x_this_number, .int x_this_begins, .int x_this_stops, .int x_this_bad, .int x_this_badPlace, .int x_this_faultPlace, .int x_this_ofSitting, .ref q_this_jaw, .ref q_this_brow, .ref q_this_stone, .ref q_this_face, .ref q_this_forehead, .ref q_this_age, .ref q_this_family, .ref q_this_seat, .ref q_this_past, .int x_this_yearNow, .int x_this_acts, .int x_this_seen, .ref q_this_asked, .ref q_this_stack, .int x_this_satDown, .ref q_this_rowThen, .ref q_this_leastBy, .ref q_this_seenWho, .ref q_this_seenIn, .ref q_this_seenJaw, .ref q_this_rowSeen, .ref q_this_fit, .ref q_this_seatThen, .int x_this_fitMany, .ref q_this_gains, .int x_this_seedNow, .int x_this_hasImage, .int x_this_actsThen, .int x_this_seenThen, .ref q_this_imageRow, .ref q_this_pastThen, .ref q_this_seenWhoThen, .ref q_this_seenInThen, .ref q_this_seenJawThen, .ref q_this_statusThen])), (q_this_status, .inl (ct 0, 3, .inl f5))] := hD
  refine lv_iconst (v := -1) hx hb dX12_refuse_10 (by decide) ?_
  exact hE _ f5 _ _ _ _ ⟨(iv_lit (-1 : Int32) (by decide) : iv (-1 : Int32) (-1) (-1)), ((uy_Q0 hR).symm.trans hRe)⟩ hP hD hS dX12_refuse_11
abbrev rm_Model_carve : Room := { frames := 0, cells := 0, slots := 0, locals := 0 }
abbrev wgX12_carve : List Cond := .code yX12_carve cX12_carve 4 none :: gT12
set_option maxHeartbeats 4000000 in
set_option maxRecDepth 100000 in
theorem c_Model_carve (l : Launch) (D : va_G) (ct : Nat → ClassId) (q_this q_this_jaw q_this_brow q_this_stone q_this_sorts q_this_ofWears q_this_ofSits q_this_values q_this_told q_this_jawTold q_this_browTold q_this_stoneTold q_this_orphan q_this_faceTold q_this_foreheadTold q_this_ageTold q_this_familyTold q_this_rains q_this_signsWears q_this_signsSits q_this_status q_this_tape q_this_face q_this_forehead q_this_age q_this_family q_this_seat q_this_past q_this_asked q_this_stack q_this_rowThen q_this_leastBy q_this_seenWho q_this_seenIn q_this_seenJaw q_this_rowSeen q_this_fit q_this_seatThen q_this_gains q_this_imageRow q_this_pastThen q_this_seenWhoThen q_this_seenInThen q_this_seenJawThen q_this_statusThen : Nat) (sz : Nat) (x_this_code x_this_taped x_this_at x_this_size x_this_token x_this_number x_this_begins x_this_stops x_this_bad x_this_badPlace x_this_faultPlace x_this_ofSitting x_this_yearNow x_this_acts x_this_seen x_this_satDown x_this_fitMany x_this_seedNow x_this_hasImage x_this_actsThen x_this_seenThen : Int32) (f_this_jaw f_this_brow f_this_stone : Nat → Int32) (p1 p2 p3 : Int32) (i_x_this_taped : iv x_this_taped 0 700) (i_x_this_ofSitting : iv x_this_ofSitting 0 1) (i_x_this_yearNow : iv x_this_yearNow 0 5000) (i_x_this_acts : iv x_this_acts 0 40) (i_x_this_seen : iv x_this_seen 0 8) (i_x_this_fitMany : iv x_this_fitMany 0 800) (i_x_this_hasImage : iv x_this_hasImage 0 1) (i_x_this_actsThen : iv x_this_actsThen 0 40) (i_x_this_seenThen : iv x_this_seenThen 0 8) (i_p1 : iv p1 0 7) : cV l yX12_carve wgX12_carve rm_Model_carve D ct [(q_this, .inr (11, [.ref q_this_sorts, .ref q_this_ofWears, .ref q_this_ofSits, .ref q_this_values, .int x_this_code, .ref q_this_told, .ref q_this_jawTold, .ref q_this_browTold, .ref q_this_stoneTold, .ref q_this_orphan, .ref q_this_faceTold, .ref q_this_foreheadTold, .ref q_this_ageTold, .ref q_this_familyTold, .ref q_this_rains, .ref q_this_signsWears, .ref q_this_signsSits, .ref q_this_status, .ref q_this_tape, .int x_this_taped, .int x_this_at, .int x_this_size, .int x_this_token, .int x_this_number, .int x_this_begins, .int x_this_stops, .int x_this_bad, .int x_this_badPlace, .int x_this_faultPlace, .int x_this_ofSitting, .ref q_this_jaw, .ref q_this_brow, .ref q_this_stone, .ref q_this_face, .ref q_this_forehead, .ref q_this_age, .ref q_this_family, .ref q_this_seat, .ref q_this_past, .int x_this_yearNow, .int x_this_acts, .int x_this_seen, .ref q_this_asked, .ref q_this_stack, .int x_this_satDown, .ref q_this_rowThen, .ref q_this_leastBy, .ref q_this_seenWho, .ref q_this_seenIn, .ref q_this_seenJaw, .ref q_this_rowSeen, .ref q_this_fit, .ref q_this_seatThen, .int x_this_fitMany, .ref q_this_gains, .int x_this_seedNow, .int x_this_hasImage, .int x_this_actsThen, .int x_this_seenThen, .ref q_this_imageRow, .ref q_this_pastThen, .ref q_this_seenWhoThen, .ref q_this_seenInThen, .ref q_this_seenJawThen, .ref q_this_statusThen])), (q_this_jaw, .inl (ct 0, 8, .inl f_this_jaw)), (q_this_brow, .inl (ct 0, 8, .inl f_this_brow)), (q_this_stone, .inl (ct 0, 8, .inl f_this_stone))] sz [.ref q_this, .int p1, .int p2, .int p3] (fun u : (Nat → Int32) × (Nat → Int32) × (Nat → Int32) => (u.1, u.2.1, u.2.2) = m_Model_carve f_this_jaw f_this_brow f_this_stone p1 p2 p3) (fun u : (Nat → Int32) × (Nat → Int32) × (Nat → Int32) => [(q_this, .inr (11, [.ref q_this_sorts, .ref q_this_ofWears, .ref q_this_ofSits, .ref q_this_values, .int x_this_code, .ref q_this_told, .ref q_this_jawTold, .ref q_this_browTold, .ref q_this_stoneTold, .ref q_this_orphan, .ref q_this_faceTold, .ref q_this_foreheadTold, .ref q_this_ageTold, .ref q_this_familyTold, .ref q_this_rains, .ref q_this_signsWears, .ref q_this_signsSits, .ref q_this_status, .ref q_this_tape, .int x_this_taped, .int x_this_at, .int x_this_size, .int x_this_token, .int x_this_number, .int x_this_begins, .int x_this_stops, .int x_this_bad, .int x_this_badPlace, .int x_this_faultPlace, .int x_this_ofSitting, .ref q_this_jaw, .ref q_this_brow, .ref q_this_stone, .ref q_this_face, .ref q_this_forehead, .ref q_this_age, .ref q_this_family, .ref q_this_seat, .ref q_this_past, .int x_this_yearNow, .int x_this_acts, .int x_this_seen, .ref q_this_asked, .ref q_this_stack, .int x_this_satDown, .ref q_this_rowThen, .ref q_this_leastBy, .ref q_this_seenWho, .ref q_this_seenIn, .ref q_this_seenJaw, .ref q_this_rowSeen, .ref q_this_fit, .ref q_this_seatThen, .int x_this_fitMany, .ref q_this_gains, .int x_this_seedNow, .int x_this_hasImage, .int x_this_actsThen, .int x_this_seenThen, .ref q_this_imageRow, .ref q_this_pastThen, .ref q_this_seenWhoThen, .ref q_this_seenInThen, .ref q_this_seenJawThen, .ref q_this_statusThen])), (q_this_jaw, .inl (ct 0, 8, .inl u.1)), (q_this_brow, .inl (ct 0, 8, .inl u.2.1)), (q_this_stone, .inl (ct 0, 8, .inl u.2.2))]) := by
  refine cV_of (cc := cX12_carve) (maxL := 4) (by decide) rfl (Nat.le_of_ble_eq_true rfl) ?_
  intro p e s m args below meth c Q A hx hb hml hts hown hK hP hD hA hAe hsz hname hE ls hl
  have hS : va_S A s.heap s.heap [] := va_S.rf
  have hP : va_P D vwCl [(q_this, .inr (11, [.ref q_this_sorts, .ref q_this_ofWears, .ref q_this_ofSits, .ref q_this_values, .int x_this_code, .ref q_this_told, .ref q_this_jawTold, .ref q_this_browTold, .ref q_this_stoneTold, .ref q_this_orphan, .ref q_this_faceTold, .ref q_this_foreheadTold, .ref q_this_ageTold, .ref q_this_familyTold, .ref q_this_rains, .ref q_this_signsWears, .ref q_this_signsSits, .ref q_this_status, .ref q_this_tape, .int x_this_taped, .int x_this_at, .int x_this_size, .int x_this_token, .int x_this_number, .int x_this_begins, .int x_this_stops, .int x_this_bad, .int x_this_badPlace, .int x_this_faultPlace, .int x_this_ofSitting, .ref q_this_jaw, .ref q_this_brow, .ref q_this_stone, .ref q_this_face, .ref q_this_forehead, .ref q_this_age, .ref q_this_family, .ref q_this_seat, .ref q_this_past, .int x_this_yearNow, .int x_this_acts, .int x_this_seen, .ref q_this_asked, .ref q_this_stack, .int x_this_satDown, .ref q_this_rowThen, .ref q_this_leastBy, .ref q_this_seenWho, .ref q_this_seenIn, .ref q_this_seenJaw, .ref q_this_rowSeen, .ref q_this_fit, .ref q_this_seatThen, .int x_this_fitMany, .ref q_this_gains, .int x_this_seedNow, .int x_this_hasImage, .int x_this_actsThen, .int x_this_seenThen, .ref q_this_imageRow, .ref q_this_pastThen, .ref q_this_seenWhoThen, .ref q_this_seenInThen, .ref q_this_seenJawThen, .ref q_this_statusThen])), (q_this_jaw, .inl (ct 0, 8, .inl f_this_jaw)), (q_this_brow, .inl (ct 0, 8, .inl f_this_brow)), (q_this_stone, .inl (ct 0, 8, .inl f_this_stone))] s.heap := hP
  have hD : va_D A [(q_this, .inr (11, [.ref q_this_sorts, .ref q_this_ofWears, .ref q_this_ofSits, .ref q_this_values, .int x_this_code, .ref q_this_told, .ref q_this_jawTold, .ref q_this_browTold, .ref q_this_stoneTold, .ref q_this_orphan, .ref q_this_faceTold, .ref q_this_foreheadTold, .ref q_this_ageTold, .ref q_this_familyTold, .ref q_this_rains, .ref q_this_signsWears, .ref q_this_signsSits, .ref q_this_status, .ref q_this_tape, .int x_this_taped, .int x_this_at, .int x_this_size, .int x_this_token, .int x_this_number, .int x_this_begins, .int x_this_stops, .int x_this_bad, .int x_this_badPlace, .int x_this_faultPlace, .int x_this_ofSitting, .ref q_this_jaw, .ref q_this_brow, .ref q_this_stone, .ref q_this_face, .ref q_this_forehead, .ref q_this_age, .ref q_this_family, .ref q_this_seat, .ref q_this_past, .int x_this_yearNow, .int x_this_acts, .int x_this_seen, .ref q_this_asked, .ref q_this_stack, .int x_this_satDown, .ref q_this_rowThen, .ref q_this_leastBy, .ref q_this_seenWho, .ref q_this_seenIn, .ref q_this_seenJaw, .ref q_this_rowSeen, .ref q_this_fit, .ref q_this_seatThen, .int x_this_fitMany, .ref q_this_gains, .int x_this_seedNow, .int x_this_hasImage, .int x_this_actsThen, .int x_this_seenThen, .ref q_this_imageRow, .ref q_this_pastThen, .ref q_this_seenWhoThen, .ref q_this_seenInThen, .ref q_this_seenJawThen, .ref q_this_statusThen])), (q_this_jaw, .inl (ct 0, 8, .inl f_this_jaw)), (q_this_brow, .inl (ct 0, 8, .inl f_this_brow)), (q_this_stone, .inl (ct 0, 8, .inl f_this_stone))] := hD
  have mG : ∀ (i : Nat) {w : Cond}, gT12[i]? = some w → w ∈ wgX12_carve := fun i w h => List.mem_cons_of_mem _ (List.mem_of_getElem? h)
  have hl : lv_has ls 4 [(0, .ref q_this), (1, .int p1), (2, .int p2), (3, .int p3)] := hl
  obtain ⟨R, hRe⟩ : ∃ R : ((Nat → Int32) × (Nat → Int32) × (Nat → Int32)), R = m_Model_carve f_this_jaw f_this_brow f_this_stone p1 p2 p3 := ⟨_, rfl⟩
  have hR : uy_Q R (fun z : ((Nat → Int32) × (Nat → Int32) × (Nat → Int32)) => z) (m_Model_carve f_this_jaw f_this_brow f_this_stone p1 p2 p3) := hRe
  have hin_Model : ∀ w ∈ u_ws RX12 TX12 65, w ∈ wgX12_carve := fun w h => List.mem_cons_of_mem _ (ingT12_X12 w h)
  delta m_Model_carve at hR
  refine lv_aload_n hx hb dX12_carve_0 rfl (lv_at hl 0 rfl) ?_
  refine va_get (D := D) (ci := 11) (v := .ref q_this_jaw) (C := RX12) (T := TX12) (N := 65) hx hb hts hin_Model hown hK hP 0 rfl rfl 30 (by decide) (hts (.fieldLink RX12 88 "GutterSeatsModel" "jaw" "[I") (List.mem_cons_of_mem _ (gm12 0 25 (by first | rfl | decide +kernel)))) (fun _ h9 => h9) rfl dX12_carve_1 ?_
  refine lv_iload_n hx hb dX12_carve_4 rfl (lv_at hl 1 rfl) ?_
  refine lv_iload_n hx hb dX12_carve_5 rfl (lv_at hl 2 rfl) ?_
  have n1 : vp_in p1 8 := iv_in i_p1 (by decide) (by decide)
  refine va_iast hx hb hK hP hD hS 1 0 rfl rfl n1 dX12_carve_6 (fun H locs hP hD hS => ?_)
  obtain ⟨f2, ef2⟩ : ∃ z : Nat → Int32, z = upd f_this_jaw p1.toNatClampNeg p2 := ⟨_, rfl⟩
  replace hR := uy_Ls ef2 hR
  rw [← ef2] at hP hD
  have hP : va_P D vwCl [(q_this, .inr (11, [.ref q_this_sorts, .ref q_this_ofWears, .ref q_this_ofSits, .ref q_this_values, .int x_this_code, .ref q_this_told, .ref q_this_jawTold, .ref q_this_browTold, .ref q_this_stoneTold, .ref q_this_orphan, .ref q_this_faceTold, .ref q_this_foreheadTold, .ref q_this_ageTold, .ref q_this_familyTold, .ref q_this_rains, .ref q_this_signsWears, .ref q_this_signsSits, .ref q_this_status, .ref q_this_tape, .int x_this_taped, .int x_this_at, .int x_this_size, .int x_this_token, .int x_this_number, .int x_this_begins, .int x_this_stops, .int x_this_bad, .int x_this_badPlace, .int x_this_faultPlace, .int x_this_ofSitting, .ref q_this_jaw, .ref q_this_brow, .ref q_this_stone, .ref q_this_face, .ref q_this_forehead, .ref q_this_age, .ref q_this_family, .ref q_this_seat, .ref q_this_past, .int x_this_yearNow, .int x_this_acts, .int x_this_seen, .ref q_this_asked, .ref q_this_stack, .int x_this_satDown, .ref q_this_rowThen, .ref q_this_leastBy, .ref q_this_seenWho, .ref q_this_seenIn, .ref q_this_seenJaw, .ref q_this_rowSeen, .ref q_this_fit, .ref q_this_seatThen, .int x_this_fitMany, .ref q_this_gains, .int x_this_seedNow, .int x_this_hasImage, .int x_this_actsThen, .int x_this_seenThen, .ref q_this_imageRow, .ref q_this_pastThen, .ref q_this_seenWhoThen, .ref q_this_seenInThen, .ref q_this_seenJawThen, .ref q_this_statusThen])), (q_this_jaw, .inl (ct 0, 8, .inl f2)), (q_this_brow, .inl (ct 0, 8, .inl f_this_brow)), (q_this_stone, .inl (ct 0, 8, .inl f_this_stone))] H := hP
  have hD : va_D A [(q_this, .inr (11, [.ref q_this_sorts, .ref q_this_ofWears, .ref q_this_ofSits, .ref q_this_values, .int x_this_code, .ref q_this_told, .ref q_this_jawTold, .ref q_this_browTold, .ref q_this_stoneTold, .ref q_this_orphan, .ref q_this_faceTold, .ref q_this_foreheadTold, .ref q_this_ageTold, .ref q_this_familyTold, .ref q_this_rains, .ref q_this_signsWears, .ref q_this_signsSits, .ref q_this_status, .ref q_this_tape, .int x_this_taped, .int x_this_at, .int x_this_size, .int x_this_token, .int x_this_number, .int x_this_begins, .int x_this_stops, .int x_this_bad, .int x_this_badPlace, .int x_this_faultPlace, .int x_this_ofSitting, .ref q_this_jaw, .ref q_this_brow, .ref q_this_stone, .ref q_this_face, .ref q_this_forehead, .ref q_this_age, .ref q_this_family, .ref q_this_seat, .ref q_this_past, .int x_this_yearNow, .int x_this_acts, .int x_this_seen, .ref q_this_asked, .ref q_this_stack, .int x_this_satDown, .ref q_this_rowThen, .ref q_this_leastBy, .ref q_this_seenWho, .ref q_this_seenIn, .ref q_this_seenJaw, .ref q_this_rowSeen, .ref q_this_fit, .ref q_this_seatThen, .int x_this_fitMany, .ref q_this_gains, .int x_this_seedNow, .int x_this_hasImage, .int x_this_actsThen, .int x_this_seenThen, .ref q_this_imageRow, .ref q_this_pastThen, .ref q_this_seenWhoThen, .ref q_this_seenInThen, .ref q_this_seenJawThen, .ref q_this_statusThen])), (q_this_jaw, .inl (ct 0, 8, .inl f2)), (q_this_brow, .inl (ct 0, 8, .inl f_this_brow)), (q_this_stone, .inl (ct 0, 8, .inl f_this_stone))] := hD
  refine lv_aload_n hx hb dX12_carve_7 rfl (lv_at hl 0 rfl) ?_
  refine va_get (D := D) (ci := 11) (v := .ref q_this_brow) (C := RX12) (T := TX12) (N := 65) hx hb hts hin_Model hown hK hP 0 rfl rfl 31 (by decide) (hts (.fieldLink RX12 91 "GutterSeatsModel" "brow" "[I") (List.mem_cons_of_mem _ (gm12 0 26 (by first | rfl | decide +kernel)))) (fun _ h9 => h9) rfl dX12_carve_8 ?_
  refine lv_iload_n hx hb dX12_carve_11 rfl (lv_at hl 1 rfl) ?_
  refine lv_iload_n hx hb dX12_carve_12 rfl (lv_at hl 3 rfl) ?_
  have n3 : vp_in p1 8 := iv_in i_p1 (by decide) (by decide)
  refine va_iast hx hb hK hP hD hS 2 0 rfl rfl n3 dX12_carve_13 (fun H locs hP hD hS => ?_)
  obtain ⟨f4, ef4⟩ : ∃ z : Nat → Int32, z = upd f_this_brow p1.toNatClampNeg p3 := ⟨_, rfl⟩
  replace hR := uy_Ls ef4 hR
  rw [← ef4] at hP hD
  have hP : va_P D vwCl [(q_this, .inr (11, [.ref q_this_sorts, .ref q_this_ofWears, .ref q_this_ofSits, .ref q_this_values, .int x_this_code, .ref q_this_told, .ref q_this_jawTold, .ref q_this_browTold, .ref q_this_stoneTold, .ref q_this_orphan, .ref q_this_faceTold, .ref q_this_foreheadTold, .ref q_this_ageTold, .ref q_this_familyTold, .ref q_this_rains, .ref q_this_signsWears, .ref q_this_signsSits, .ref q_this_status, .ref q_this_tape, .int x_this_taped, .int x_this_at, .int x_this_size, .int x_this_token, .int x_this_number, .int x_this_begins, .int x_this_stops, .int x_this_bad, .int x_this_badPlace, .int x_this_faultPlace, .int x_this_ofSitting, .ref q_this_jaw, .ref q_this_brow, .ref q_this_stone, .ref q_this_face, .ref q_this_forehead, .ref q_this_age, .ref q_this_family, .ref q_this_seat, .ref q_this_past, .int x_this_yearNow, .int x_this_acts, .int x_this_seen, .ref q_this_asked, .ref q_this_stack, .int x_this_satDown, .ref q_this_rowThen, .ref q_this_leastBy, .ref q_this_seenWho, .ref q_this_seenIn, .ref q_this_seenJaw, .ref q_this_rowSeen, .ref q_this_fit, .ref q_this_seatThen, .int x_this_fitMany, .ref q_this_gains, .int x_this_seedNow, .int x_this_hasImage, .int x_this_actsThen, .int x_this_seenThen, .ref q_this_imageRow, .ref q_this_pastThen, .ref q_this_seenWhoThen, .ref q_this_seenInThen, .ref q_this_seenJawThen, .ref q_this_statusThen])), (q_this_jaw, .inl (ct 0, 8, .inl f2)), (q_this_brow, .inl (ct 0, 8, .inl f4)), (q_this_stone, .inl (ct 0, 8, .inl f_this_stone))] H := hP
  have hD : va_D A [(q_this, .inr (11, [.ref q_this_sorts, .ref q_this_ofWears, .ref q_this_ofSits, .ref q_this_values, .int x_this_code, .ref q_this_told, .ref q_this_jawTold, .ref q_this_browTold, .ref q_this_stoneTold, .ref q_this_orphan, .ref q_this_faceTold, .ref q_this_foreheadTold, .ref q_this_ageTold, .ref q_this_familyTold, .ref q_this_rains, .ref q_this_signsWears, .ref q_this_signsSits, .ref q_this_status, .ref q_this_tape, .int x_this_taped, .int x_this_at, .int x_this_size, .int x_this_token, .int x_this_number, .int x_this_begins, .int x_this_stops, .int x_this_bad, .int x_this_badPlace, .int x_this_faultPlace, .int x_this_ofSitting, .ref q_this_jaw, .ref q_this_brow, .ref q_this_stone, .ref q_this_face, .ref q_this_forehead, .ref q_this_age, .ref q_this_family, .ref q_this_seat, .ref q_this_past, .int x_this_yearNow, .int x_this_acts, .int x_this_seen, .ref q_this_asked, .ref q_this_stack, .int x_this_satDown, .ref q_this_rowThen, .ref q_this_leastBy, .ref q_this_seenWho, .ref q_this_seenIn, .ref q_this_seenJaw, .ref q_this_rowSeen, .ref q_this_fit, .ref q_this_seatThen, .int x_this_fitMany, .ref q_this_gains, .int x_this_seedNow, .int x_this_hasImage, .int x_this_actsThen, .int x_this_seenThen, .ref q_this_imageRow, .ref q_this_pastThen, .ref q_this_seenWhoThen, .ref q_this_seenInThen, .ref q_this_seenJawThen, .ref q_this_statusThen])), (q_this_jaw, .inl (ct 0, 8, .inl f2)), (q_this_brow, .inl (ct 0, 8, .inl f4)), (q_this_stone, .inl (ct 0, 8, .inl f_this_stone))] := hD
  refine lv_aload_n hx hb dX12_carve_14 rfl (lv_at hl 0 rfl) ?_
  refine va_get (D := D) (ci := 11) (v := .ref q_this_stone) (C := RX12) (T := TX12) (N := 65) hx hb hts hin_Model hown hK hP 0 rfl rfl 32 (by decide) (hts (.fieldLink RX12 94 "GutterSeatsModel" "stone" "[I") (List.mem_cons_of_mem _ (gm12 0 27 (by first | rfl | decide +kernel)))) (fun _ h9 => h9) rfl dX12_carve_15 ?_
  refine lv_iload_n hx hb dX12_carve_18 rfl (lv_at hl 1 rfl) ?_
  refine lv_bipush (v := 99) hx hb dX12_carve_19 (by decide) ?_
  have n5 : vp_in p1 8 := iv_in i_p1 (by decide) (by decide)
  refine va_iast hx hb hK hP hD hS 3 0 rfl rfl n5 dX12_carve_21 (fun H locs hP hD hS => ?_)
  obtain ⟨f6, ef6⟩ : ∃ z : Nat → Int32, z = upd f_this_stone p1.toNatClampNeg (99 : Int32) := ⟨_, rfl⟩
  replace hR := uy_Ls ef6 hR
  rw [← ef6] at hP hD
  have hP : va_P D vwCl [(q_this, .inr (11, [.ref q_this_sorts, .ref q_this_ofWears, .ref q_this_ofSits, .ref q_this_values, .int x_this_code, .ref q_this_told, .ref q_this_jawTold, .ref q_this_browTold, .ref q_this_stoneTold, .ref q_this_orphan, .ref q_this_faceTold, .ref q_this_foreheadTold, .ref q_this_ageTold, .ref q_this_familyTold, .ref q_this_rains, .ref q_this_signsWears, .ref q_this_signsSits, .ref q_this_status, .ref q_this_tape, .int x_this_taped, .int x_this_at, .int x_this_size, .int x_this_token, .int x_this_number, .int x_this_begins, .int x_this_stops, .int x_this_bad, .int x_this_badPlace, .int x_this_faultPlace, .int x_this_ofSitting, .ref q_this_jaw, .ref q_this_brow, .ref q_this_stone, .ref q_this_face, .ref q_this_forehead, .ref q_this_age, .ref q_this_family, .ref q_this_seat, .ref q_this_past, .int x_this_yearNow, .int x_this_acts, .int x_this_seen, .ref q_this_asked, .ref q_this_stack, .int x_this_satDown, .ref q_this_rowThen, .ref q_this_leastBy, .ref q_this_seenWho, .ref q_this_seenIn, .ref q_this_seenJaw, .ref q_this_rowSeen, .ref q_this_fit, .ref q_this_seatThen, .int x_this_fitMany, .ref q_this_gains, .int x_this_seedNow, .int x_this_hasImage, .int x_this_actsThen, .int x_this_seenThen, .ref q_this_imageRow, .ref q_this_pastThen, .ref q_this_seenWhoThen, .ref q_this_seenInThen, .ref q_this_seenJawThen, .ref q_this_statusThen])), (q_this_jaw, .inl (ct 0, 8, .inl f2)), (q_this_brow, .inl (ct 0, 8, .inl f4)), (q_this_stone, .inl (ct 0, 8, .inl f6))] H := hP
  have hD : va_D A [(q_this, .inr (11, [.ref q_this_sorts, .ref q_this_ofWears, .ref q_this_ofSits, .ref q_this_values, .int x_this_code, .ref q_this_told, .ref q_this_jawTold, .ref q_this_browTold, .ref q_this_stoneTold, .ref q_this_orphan, .ref q_this_faceTold, .ref q_this_foreheadTold, .ref q_this_ageTold, .ref q_this_familyTold, .ref q_this_rains, .ref q_this_signsWears, .ref q_this_signsSits, .ref q_this_status, .ref q_this_tape, .int x_this_taped, .int x_this_at, .int x_this_size, .int x_this_token, .int x_this_number, .int x_this_begins, .int x_this_stops, .int x_this_bad, .int x_this_badPlace, .int x_this_faultPlace, .int x_this_ofSitting, .ref q_this_jaw, .ref q_this_brow, .ref q_this_stone, .ref q_this_face, .ref q_this_forehead, .ref q_this_age, .ref q_this_family, .ref q_this_seat, .ref q_this_past, .int x_this_yearNow, .int x_this_acts, .int x_this_seen, .ref q_this_asked, .ref q_this_stack, .int x_this_satDown, .ref q_this_rowThen, .ref q_this_leastBy, .ref q_this_seenWho, .ref q_this_seenIn, .ref q_this_seenJaw, .ref q_this_rowSeen, .ref q_this_fit, .ref q_this_seatThen, .int x_this_fitMany, .ref q_this_gains, .int x_this_seedNow, .int x_this_hasImage, .int x_this_actsThen, .int x_this_seenThen, .ref q_this_imageRow, .ref q_this_pastThen, .ref q_this_seenWhoThen, .ref q_this_seenInThen, .ref q_this_seenJawThen, .ref q_this_statusThen])), (q_this_jaw, .inl (ct 0, 8, .inl f2)), (q_this_brow, .inl (ct 0, 8, .inl f4)), (q_this_stone, .inl (ct 0, 8, .inl f6))] := hD
  exact hE (f2, f4, f6) _ _ _ _ ((uy_Q0 hR).symm.trans hRe) hP hD hS dX12_carve_22
abbrev rm_Model_growOlder : Room := { frames := 1, cells := 0, slots := 0, locals := 21 }
abbrev wgX12_growOlder : List Cond := .code yX12_growOlder cX12_growOlder 3 none :: gT12
set_option maxHeartbeats 4000000 in
set_option maxRecDepth 100000 in
theorem c_Model_growOlder (l : Launch) (D : va_G) (ct : Nat → ClassId) (q_this q_this_told q_this_orphan q_this_jaw q_this_brow q_this_face q_this_forehead q_this_age q_this_family q_this_sorts q_this_ofWears q_this_ofSits q_this_values q_this_jawTold q_this_browTold q_this_stoneTold q_this_faceTold q_this_foreheadTold q_this_ageTold q_this_familyTold q_this_rains q_this_signsWears q_this_signsSits q_this_status q_this_tape q_this_stone q_this_seat q_this_past q_this_asked q_this_stack q_this_rowThen q_this_leastBy q_this_seenWho q_this_seenIn q_this_seenJaw q_this_rowSeen q_this_fit q_this_seatThen q_this_gains q_this_imageRow q_this_pastThen q_this_seenWhoThen q_this_seenInThen q_this_seenJawThen q_this_statusThen : Nat) (sz : Nat) (x_this_code x_this_taped x_this_at x_this_size x_this_token x_this_number x_this_begins x_this_stops x_this_bad x_this_badPlace x_this_faultPlace x_this_ofSitting x_this_yearNow x_this_acts x_this_seen x_this_satDown x_this_fitMany x_this_seedNow x_this_hasImage x_this_actsThen x_this_seenThen : Int32) (f_this_told f_this_orphan f_this_jaw f_this_brow f_this_face f_this_forehead f_this_age f_this_family : Nat → Int32) (p1 : Int32) (i_x_this_taped : iv x_this_taped 0 700) (i_x_this_ofSitting : iv x_this_ofSitting 0 1) (i_x_this_yearNow : iv x_this_yearNow 0 5000) (i_x_this_acts : iv x_this_acts 0 40) (i_x_this_seen : iv x_this_seen 0 8) (i_x_this_fitMany : iv x_this_fitMany 0 800) (i_x_this_hasImage : iv x_this_hasImage 0 1) (i_x_this_actsThen : iv x_this_actsThen 0 40) (i_x_this_seenThen : iv x_this_seenThen 0 8) (a_f_this_family : av f_this_family 8 (-1) 7) (i_p1 : iv p1 0 7) (tv : tv f_this_told) : cV l yX12_growOlder wgX12_growOlder rm_Model_growOlder D ct [(q_this, .inr (11, [.ref q_this_sorts, .ref q_this_ofWears, .ref q_this_ofSits, .ref q_this_values, .int x_this_code, .ref q_this_told, .ref q_this_jawTold, .ref q_this_browTold, .ref q_this_stoneTold, .ref q_this_orphan, .ref q_this_faceTold, .ref q_this_foreheadTold, .ref q_this_ageTold, .ref q_this_familyTold, .ref q_this_rains, .ref q_this_signsWears, .ref q_this_signsSits, .ref q_this_status, .ref q_this_tape, .int x_this_taped, .int x_this_at, .int x_this_size, .int x_this_token, .int x_this_number, .int x_this_begins, .int x_this_stops, .int x_this_bad, .int x_this_badPlace, .int x_this_faultPlace, .int x_this_ofSitting, .ref q_this_jaw, .ref q_this_brow, .ref q_this_stone, .ref q_this_face, .ref q_this_forehead, .ref q_this_age, .ref q_this_family, .ref q_this_seat, .ref q_this_past, .int x_this_yearNow, .int x_this_acts, .int x_this_seen, .ref q_this_asked, .ref q_this_stack, .int x_this_satDown, .ref q_this_rowThen, .ref q_this_leastBy, .ref q_this_seenWho, .ref q_this_seenIn, .ref q_this_seenJaw, .ref q_this_rowSeen, .ref q_this_fit, .ref q_this_seatThen, .int x_this_fitMany, .ref q_this_gains, .int x_this_seedNow, .int x_this_hasImage, .int x_this_actsThen, .int x_this_seenThen, .ref q_this_imageRow, .ref q_this_pastThen, .ref q_this_seenWhoThen, .ref q_this_seenInThen, .ref q_this_seenJawThen, .ref q_this_statusThen])), (q_this_told, .inl (ct 0, 12, .inl f_this_told)), (q_this_orphan, .inl (ct 0, 16, .inl f_this_orphan)), (q_this_jaw, .inl (ct 0, 8, .inl f_this_jaw)), (q_this_brow, .inl (ct 0, 8, .inl f_this_brow)), (q_this_face, .inl (ct 0, 8, .inl f_this_face)), (q_this_forehead, .inl (ct 0, 8, .inl f_this_forehead)), (q_this_age, .inl (ct 0, 8, .inl f_this_age)), (q_this_family, .inl (ct 0, 8, .inl f_this_family))] sz [.ref q_this, .int p1] (fun u : (Nat → Int32) × (Nat → Int32) × (Nat → Int32) => (u.1, u.2.1, u.2.2) = m_Model_growOlder f_this_told f_this_orphan f_this_jaw f_this_brow f_this_face f_this_forehead f_this_age f_this_family p1) (fun u : (Nat → Int32) × (Nat → Int32) × (Nat → Int32) => [(q_this, .inr (11, [.ref q_this_sorts, .ref q_this_ofWears, .ref q_this_ofSits, .ref q_this_values, .int x_this_code, .ref q_this_told, .ref q_this_jawTold, .ref q_this_browTold, .ref q_this_stoneTold, .ref q_this_orphan, .ref q_this_faceTold, .ref q_this_foreheadTold, .ref q_this_ageTold, .ref q_this_familyTold, .ref q_this_rains, .ref q_this_signsWears, .ref q_this_signsSits, .ref q_this_status, .ref q_this_tape, .int x_this_taped, .int x_this_at, .int x_this_size, .int x_this_token, .int x_this_number, .int x_this_begins, .int x_this_stops, .int x_this_bad, .int x_this_badPlace, .int x_this_faultPlace, .int x_this_ofSitting, .ref q_this_jaw, .ref q_this_brow, .ref q_this_stone, .ref q_this_face, .ref q_this_forehead, .ref q_this_age, .ref q_this_family, .ref q_this_seat, .ref q_this_past, .int x_this_yearNow, .int x_this_acts, .int x_this_seen, .ref q_this_asked, .ref q_this_stack, .int x_this_satDown, .ref q_this_rowThen, .ref q_this_leastBy, .ref q_this_seenWho, .ref q_this_seenIn, .ref q_this_seenJaw, .ref q_this_rowSeen, .ref q_this_fit, .ref q_this_seatThen, .int x_this_fitMany, .ref q_this_gains, .int x_this_seedNow, .int x_this_hasImage, .int x_this_actsThen, .int x_this_seenThen, .ref q_this_imageRow, .ref q_this_pastThen, .ref q_this_seenWhoThen, .ref q_this_seenInThen, .ref q_this_seenJawThen, .ref q_this_statusThen])), (q_this_told, .inl (ct 0, 12, .inl f_this_told)), (q_this_orphan, .inl (ct 0, 16, .inl f_this_orphan)), (q_this_jaw, .inl (ct 0, 8, .inl f_this_jaw)), (q_this_brow, .inl (ct 0, 8, .inl f_this_brow)), (q_this_face, .inl (ct 0, 8, .inl u.2.1)), (q_this_forehead, .inl (ct 0, 8, .inl u.2.2)), (q_this_age, .inl (ct 0, 8, .inl u.1)), (q_this_family, .inl (ct 0, 8, .inl f_this_family))]) := by
  refine cV_of (cc := cX12_growOlder) (maxL := 3) (by decide) rfl (Nat.le_of_ble_eq_true rfl) ?_
  intro p e s m args below meth c Q A hx hb hml hts hown hK hP hD hA hAe hsz hname hE ls hl
  have hS : va_S A s.heap s.heap [] := va_S.rf
  have hP : va_P D vwCl [(q_this, .inr (11, [.ref q_this_sorts, .ref q_this_ofWears, .ref q_this_ofSits, .ref q_this_values, .int x_this_code, .ref q_this_told, .ref q_this_jawTold, .ref q_this_browTold, .ref q_this_stoneTold, .ref q_this_orphan, .ref q_this_faceTold, .ref q_this_foreheadTold, .ref q_this_ageTold, .ref q_this_familyTold, .ref q_this_rains, .ref q_this_signsWears, .ref q_this_signsSits, .ref q_this_status, .ref q_this_tape, .int x_this_taped, .int x_this_at, .int x_this_size, .int x_this_token, .int x_this_number, .int x_this_begins, .int x_this_stops, .int x_this_bad, .int x_this_badPlace, .int x_this_faultPlace, .int x_this_ofSitting, .ref q_this_jaw, .ref q_this_brow, .ref q_this_stone, .ref q_this_face, .ref q_this_forehead, .ref q_this_age, .ref q_this_family, .ref q_this_seat, .ref q_this_past, .int x_this_yearNow, .int x_this_acts, .int x_this_seen, .ref q_this_asked, .ref q_this_stack, .int x_this_satDown, .ref q_this_rowThen, .ref q_this_leastBy, .ref q_this_seenWho, .ref q_this_seenIn, .ref q_this_seenJaw, .ref q_this_rowSeen, .ref q_this_fit, .ref q_this_seatThen, .int x_this_fitMany, .ref q_this_gains, .int x_this_seedNow, .int x_this_hasImage, .int x_this_actsThen, .int x_this_seenThen, .ref q_this_imageRow, .ref q_this_pastThen, .ref q_this_seenWhoThen, .ref q_this_seenInThen, .ref q_this_seenJawThen, .ref q_this_statusThen])), (q_this_told, .inl (ct 0, 12, .inl f_this_told)), (q_this_orphan, .inl (ct 0, 16, .inl f_this_orphan)), (q_this_jaw, .inl (ct 0, 8, .inl f_this_jaw)), (q_this_brow, .inl (ct 0, 8, .inl f_this_brow)), (q_this_face, .inl (ct 0, 8, .inl f_this_face)), (q_this_forehead, .inl (ct 0, 8, .inl f_this_forehead)), (q_this_age, .inl (ct 0, 8, .inl f_this_age)), (q_this_family, .inl (ct 0, 8, .inl f_this_family))] s.heap := hP
  have hD : va_D A [(q_this, .inr (11, [.ref q_this_sorts, .ref q_this_ofWears, .ref q_this_ofSits, .ref q_this_values, .int x_this_code, .ref q_this_told, .ref q_this_jawTold, .ref q_this_browTold, .ref q_this_stoneTold, .ref q_this_orphan, .ref q_this_faceTold, .ref q_this_foreheadTold, .ref q_this_ageTold, .ref q_this_familyTold, .ref q_this_rains, .ref q_this_signsWears, .ref q_this_signsSits, .ref q_this_status, .ref q_this_tape, .int x_this_taped, .int x_this_at, .int x_this_size, .int x_this_token, .int x_this_number, .int x_this_begins, .int x_this_stops, .int x_this_bad, .int x_this_badPlace, .int x_this_faultPlace, .int x_this_ofSitting, .ref q_this_jaw, .ref q_this_brow, .ref q_this_stone, .ref q_this_face, .ref q_this_forehead, .ref q_this_age, .ref q_this_family, .ref q_this_seat, .ref q_this_past, .int x_this_yearNow, .int x_this_acts, .int x_this_seen, .ref q_this_asked, .ref q_this_stack, .int x_this_satDown, .ref q_this_rowThen, .ref q_this_leastBy, .ref q_this_seenWho, .ref q_this_seenIn, .ref q_this_seenJaw, .ref q_this_rowSeen, .ref q_this_fit, .ref q_this_seatThen, .int x_this_fitMany, .ref q_this_gains, .int x_this_seedNow, .int x_this_hasImage, .int x_this_actsThen, .int x_this_seenThen, .ref q_this_imageRow, .ref q_this_pastThen, .ref q_this_seenWhoThen, .ref q_this_seenInThen, .ref q_this_seenJawThen, .ref q_this_statusThen])), (q_this_told, .inl (ct 0, 12, .inl f_this_told)), (q_this_orphan, .inl (ct 0, 16, .inl f_this_orphan)), (q_this_jaw, .inl (ct 0, 8, .inl f_this_jaw)), (q_this_brow, .inl (ct 0, 8, .inl f_this_brow)), (q_this_face, .inl (ct 0, 8, .inl f_this_face)), (q_this_forehead, .inl (ct 0, 8, .inl f_this_forehead)), (q_this_age, .inl (ct 0, 8, .inl f_this_age)), (q_this_family, .inl (ct 0, 8, .inl f_this_family))] := hD
  have mG : ∀ (i : Nat) {w : Cond}, gT12[i]? = some w → w ∈ wgX12_growOlder := fun i w h => List.mem_cons_of_mem _ (List.mem_of_getElem? h)
  have hl : lv_has ls 3 [(0, .ref q_this), (1, .int p1)] := hl
  obtain ⟨R, hRe⟩ : ∃ R : ((Nat → Int32) × (Nat → Int32) × (Nat → Int32)), R = m_Model_growOlder f_this_told f_this_orphan f_this_jaw f_this_brow f_this_face f_this_forehead f_this_age f_this_family p1 := ⟨_, rfl⟩
  have hR : uy_Q R (fun z : ((Nat → Int32) × (Nat → Int32) × (Nat → Int32)) => z) (m_Model_growOlder f_this_told f_this_orphan f_this_jaw f_this_brow f_this_face f_this_forehead f_this_age f_this_family p1) := hRe
  have hin_Model : ∀ w ∈ u_ws RX12 TX12 65, w ∈ wgX12_growOlder := fun w h => List.mem_cons_of_mem _ (ingT12_X12 w h)
  delta m_Model_growOlder at hR
  refine lv_aload_n hx hb dX12_growOlder_0 rfl (lv_at hl 0 rfl) ?_
  refine va_get (D := D) (ci := 11) (v := .ref q_this_age) (C := RX12) (T := TX12) (N := 65) hx hb hts hin_Model hown hK hP 0 rfl rfl 35 (by decide) (hts (.fieldLink RX12 102 "GutterSeatsModel" "age" "[I") (List.mem_cons_of_mem _ (gm12 0 30 (by first | rfl | decide +kernel)))) (fun _ h9 => h9) rfl dX12_growOlder_1 ?_
  refine lv_iload_n hx hb dX12_growOlder_4 rfl (lv_at hl 1 rfl) ?_
  refine lv_bipush (v := 99) hx hb dX12_growOlder_5 (by decide) ?_
  refine lv_aload_n hx hb dX12_growOlder_7 rfl (lv_at hl 0 rfl) ?_
  refine va_get (D := D) (ci := 11) (v := .ref q_this_age) (C := RX12) (T := TX12) (N := 65) hx hb hts hin_Model hown hK hP 0 rfl rfl 35 (by decide) (hts (.fieldLink RX12 102 "GutterSeatsModel" "age" "[I") (List.mem_cons_of_mem _ (gm12 0 30 (by first | rfl | decide +kernel)))) (fun _ h9 => h9) rfl dX12_growOlder_8 ?_
  refine lv_iload_n hx hb dX12_growOlder_11 rfl (lv_at hl 1 rfl) ?_
  have n1 : vp_in p1 8 := iv_in i_p1 (by decide) (by decide)
  refine va_iald hx hb hK hP 7 0 rfl rfl n1 dX12_growOlder_12 ?_
  refine lv_topi (fun x2 ex2 => ?_)
  replace hR := uy_Ls ex2 hR
  refine lv_iconst (v := 1) hx hb dX12_growOlder_13 (by decide) ?_
  refine lv_iadd hx hb dX12_growOlder_14 ?_
  refine lv_topi (fun x3 ex3 => ?_)
  replace hR := uy_Ls ex3 hR
  refine va_mmin hx hb (by rw [hml]; exact hl.1.symm) hown (hts (.methodLink RX12 200 Lib.Math.min.name) (List.mem_cons_of_mem _ (gm12 1 15 (by first | rfl | decide +kernel)))) (hts (.static Lib.Math.min.name) (List.mem_cons_of_mem _ (gm12 1 16 (by first | rfl | decide +kernel)))) (hts (.initialized "java/lang/Math") (List.mem_cons_of_mem _ (gm12 1 17 (by first | rfl | decide +kernel)))) (hts (.code Lib.Math.min.name Lib.Math.min.code 2 (some .int)) (List.mem_cons_of_mem _ (gm12 1 18 (by first | rfl | decide +kernel)))) (Nat.le_of_ble_eq_true rfl) (Nat.le_of_ble_eq_true rfl) (Nat.le_of_ble_eq_true rfl) (Nat.le_of_ble_eq_true rfl) dX12_growOlder_15 ?_
  refine lv_topi (fun x4 ex4 => ?_)
  replace hR := uy_Ls ex4 hR
  have i_x4 : iv x4 (-2147483648) 99 := iv_min ex4 (iv_lit (99 : Int32) (by decide) : iv (99 : Int32) 99 99) (iv_any x3) (by decide) (by decide) (by decide)
  have n5 : vp_in p1 8 := iv_in i_p1 (by decide) (by decide)
  refine va_iast hx hb hK hP hD hS 7 0 rfl rfl n5 dX12_growOlder_18 (fun H locs hP hD hS => ?_)
  obtain ⟨f6, ef6⟩ : ∃ z : Nat → Int32, z = upd f_this_age p1.toNatClampNeg x4 := ⟨_, rfl⟩
  replace hR := uy_Ls ef6 hR
  rw [← ef6] at hP hD
  have hP : va_P D vwCl [(q_this, .inr (11, [.ref q_this_sorts, .ref q_this_ofWears, .ref q_this_ofSits, .ref q_this_values, .int x_this_code, .ref q_this_told, .ref q_this_jawTold, .ref q_this_browTold, .ref q_this_stoneTold, .ref q_this_orphan, .ref q_this_faceTold, .ref q_this_foreheadTold, .ref q_this_ageTold, .ref q_this_familyTold, .ref q_this_rains, .ref q_this_signsWears, .ref q_this_signsSits, .ref q_this_status, .ref q_this_tape, .int x_this_taped, .int x_this_at, .int x_this_size, .int x_this_token, .int x_this_number, .int x_this_begins, .int x_this_stops, .int x_this_bad, .int x_this_badPlace, .int x_this_faultPlace, .int x_this_ofSitting, .ref q_this_jaw, .ref q_this_brow, .ref q_this_stone, .ref q_this_face, .ref q_this_forehead, .ref q_this_age, .ref q_this_family, .ref q_this_seat, .ref q_this_past, .int x_this_yearNow, .int x_this_acts, .int x_this_seen, .ref q_this_asked, .ref q_this_stack, .int x_this_satDown, .ref q_this_rowThen, .ref q_this_leastBy, .ref q_this_seenWho, .ref q_this_seenIn, .ref q_this_seenJaw, .ref q_this_rowSeen, .ref q_this_fit, .ref q_this_seatThen, .int x_this_fitMany, .ref q_this_gains, .int x_this_seedNow, .int x_this_hasImage, .int x_this_actsThen, .int x_this_seenThen, .ref q_this_imageRow, .ref q_this_pastThen, .ref q_this_seenWhoThen, .ref q_this_seenInThen, .ref q_this_seenJawThen, .ref q_this_statusThen])), (q_this_told, .inl (ct 0, 12, .inl f_this_told)), (q_this_orphan, .inl (ct 0, 16, .inl f_this_orphan)), (q_this_jaw, .inl (ct 0, 8, .inl f_this_jaw)), (q_this_brow, .inl (ct 0, 8, .inl f_this_brow)), (q_this_face, .inl (ct 0, 8, .inl f_this_face)), (q_this_forehead, .inl (ct 0, 8, .inl f_this_forehead)), (q_this_age, .inl (ct 0, 8, .inl f6)), (q_this_family, .inl (ct 0, 8, .inl f_this_family))] H := hP
  have hD : va_D A [(q_this, .inr (11, [.ref q_this_sorts, .ref q_this_ofWears, .ref q_this_ofSits, .ref q_this_values, .int x_this_code, .ref q_this_told, .ref q_this_jawTold, .ref q_this_browTold, .ref q_this_stoneTold, .ref q_this_orphan, .ref q_this_faceTold, .ref q_this_foreheadTold, .ref q_this_ageTold, .ref q_this_familyTold, .ref q_this_rains, .ref q_this_signsWears, .ref q_this_signsSits, .ref q_this_status, .ref q_this_tape, .int x_this_taped, .int x_this_at, .int x_this_size, .int x_this_token, .int x_this_number, .int x_this_begins, .int x_this_stops, .int x_this_bad, .int x_this_badPlace, .int x_this_faultPlace, .int x_this_ofSitting, .ref q_this_jaw, .ref q_this_brow, .ref q_this_stone, .ref q_this_face, .ref q_this_forehead, .ref q_this_age, .ref q_this_family, .ref q_this_seat, .ref q_this_past, .int x_this_yearNow, .int x_this_acts, .int x_this_seen, .ref q_this_asked, .ref q_this_stack, .int x_this_satDown, .ref q_this_rowThen, .ref q_this_leastBy, .ref q_this_seenWho, .ref q_this_seenIn, .ref q_this_seenJaw, .ref q_this_rowSeen, .ref q_this_fit, .ref q_this_seatThen, .int x_this_fitMany, .ref q_this_gains, .int x_this_seedNow, .int x_this_hasImage, .int x_this_actsThen, .int x_this_seenThen, .ref q_this_imageRow, .ref q_this_pastThen, .ref q_this_seenWhoThen, .ref q_this_seenInThen, .ref q_this_seenJawThen, .ref q_this_statusThen])), (q_this_told, .inl (ct 0, 12, .inl f_this_told)), (q_this_orphan, .inl (ct 0, 16, .inl f_this_orphan)), (q_this_jaw, .inl (ct 0, 8, .inl f_this_jaw)), (q_this_brow, .inl (ct 0, 8, .inl f_this_brow)), (q_this_face, .inl (ct 0, 8, .inl f_this_face)), (q_this_forehead, .inl (ct 0, 8, .inl f_this_forehead)), (q_this_age, .inl (ct 0, 8, .inl f6)), (q_this_family, .inl (ct 0, 8, .inl f_this_family))] := hD
  refine lv_aload_n hx hb dX12_growOlder_19 rfl (lv_at hl 0 rfl) ?_
  refine va_get (D := D) (ci := 11) (v := .ref q_this_family) (C := RX12) (T := TX12) (N := 65) hx hb hts hin_Model hown hK hP 0 rfl rfl 36 (by decide) (hts (.fieldLink RX12 104 "GutterSeatsModel" "family" "[I") (List.mem_cons_of_mem _ (gm12 0 31 (by first | rfl | decide +kernel)))) (fun _ h9 => h9) rfl dX12_growOlder_20 ?_
  refine lv_iload_n hx hb dX12_growOlder_23 rfl (lv_at hl 1 rfl) ?_
  have n7 : vp_in p1 8 := iv_in i_p1 (by decide) (by decide)
  refine va_iald hx hb hK hP 8 0 rfl rfl n7 dX12_growOlder_24 ?_
  refine lv_topi (fun x8 ex8 => ?_)
  replace hR := uy_Ls ex8 hR
  have i_x8 : iv x8 (-1) 7 := by rw [ex8]; exact av_get a_f_this_family n7
  refine lv_istore_n (lv' := [(2, .int x8), (0, .ref q_this), (1, .int p1)]) hx hb dX12_growOlder_25 rfl hl (by decide) rfl (fun ls hl => ?_)
  refine lv_aload_n hx hb dX12_growOlder_26 rfl (lv_at hl 1 rfl) ?_
  refine va_get (D := D) (ci := 11) (v := .ref q_this_age) (C := RX12) (T := TX12) (N := 65) hx hb hts hin_Model hown hK hP 0 rfl rfl 35 (by decide) (hts (.fieldLink RX12 102 "GutterSeatsModel" "age" "[I") (List.mem_cons_of_mem _ (gm12 0 30 (by first | rfl | decide +kernel)))) (fun _ h9 => h9) rfl dX12_growOlder_27 ?_
  refine lv_iload_n hx hb dX12_growOlder_30 rfl (lv_at hl 2 rfl) ?_
  have n9 : vp_in p1 8 := iv_in i_p1 (by decide) (by decide)
  refine va_iald hx hb hK hP 7 0 rfl rfl n9 dX12_growOlder_31 ?_
  refine lv_topi (fun x10 ex10 => ?_)
  replace hR := uy_Ls ex10 hR
  refine lv_aload_n hx hb dX12_growOlder_32 rfl (lv_at hl 1 rfl) ?_
  refine va_get (D := D) (ci := 11) (v := .ref q_this_told) (C := RX12) (T := TX12) (N := 65) hx hb hts hin_Model hown hK hP 0 rfl rfl 5 (by decide) (hts (.fieldLink RX12 42 "GutterSeatsModel" "told" "[I") (List.mem_cons_of_mem _ (gm12 0 10 (by first | rfl | decide +kernel)))) (fun _ h9 => h9) rfl dX12_growOlder_33 ?_
  refine lv_iconst (v := 3) hx hb dX12_growOlder_36 (by decide) ?_
  have n11 : vp_in (3 : Int32) 12 := iv_in (iv_lit (3 : Int32) (by decide) : iv (3 : Int32) 3 3) (by decide) (by decide)
  refine va_iald hx hb hK hP 1 0 rfl rfl n11 dX12_growOlder_37 ?_
  refine lv_topi (fun x12 ex12 => ?_)
  replace hR := uy_Ls ex12 hR
  refine lv_icmp_lt (tgt := 56) hx hb dX12_growOlder_38 (by decide) (fun c13 => ?_) (fun c13 => ?_)
  ·
    replace hR := uy_Qp c13 hR
    have j14 : iv x10 (-2147483648) 2147483646 := iv_ltL c13 (iv_any x10) (iv_any x12) (by decide)
    have j15 : iv x12 (-2147483647) 2147483647 := iv_ltR c13 (iv_any x10) (iv_any x12) (by decide)
    exact hE (f6, f_this_face, f_this_forehead) _ _ _ _ ((uy_Q0 hR).symm.trans hRe) hP hD hS dX12_growOlder_56
  ·
    replace hR := uy_Qn c13 hR
    refine lv_aload_n hx hb dX12_growOlder_41 rfl (lv_at hl 1 rfl) ?_
    refine va_get (D := D) (ci := 11) (v := .ref q_this_orphan) (C := RX12) (T := TX12) (N := 65) hx hb hts hin_Model hown hK hP 0 rfl rfl 9 (by decide) (hts (.fieldLink RX12 55 "GutterSeatsModel" "orphan" "[I") (List.mem_cons_of_mem _ (gm12 0 14 (by first | rfl | decide +kernel)))) (fun _ h9 => h9) rfl dX12_growOlder_42 ?_
    refine lv_iload_n hx hb dX12_growOlder_45 rfl (lv_at hl 2 rfl) ?_
    have n16 : vp_in p1 16 := iv_in i_p1 (by decide) (by decide)
    refine va_iald hx hb hK hP 2 0 rfl rfl n16 dX12_growOlder_46 ?_
    refine lv_topi (fun x17 ex17 => ?_)
    replace hR := uy_Ls ex17 hR
    refine lv_iconst (v := 1) hx hb dX12_growOlder_47 (by decide) ?_
    refine lv_icmp_eq (tgt := 56) hx hb dX12_growOlder_48 (by decide) (fun c18 => ?_) (fun c18 => ?_)
    ·
      replace hR := uy_Qp c18 hR
      have j19 : iv x17 1 1 := by rw [c18]; exact (iv_lit (1 : Int32) (by decide) : iv (1 : Int32) 1 1)
      exact hE (f6, f_this_face, f_this_forehead) _ _ _ _ ((uy_Q0 hR).symm.trans hRe) hP hD hS dX12_growOlder_56
    ·
      replace hR := uy_Qn c18 hR
      refine lv_iload_n hx hb dX12_growOlder_51 rfl (lv_at hl 0 rfl) ?_
      refine lv_iconst (v := -1) hx hb dX12_growOlder_52 (by decide) ?_
      refine lv_icmp_ne (tgt := 57) hx hb dX12_growOlder_53 (by decide) (fun c20 => ?_) (fun c20 => ?_)
      ·
        replace hR := uy_Qn c20 hR
        have j21 : iv x8 0 7 := iv_neL c20 i_x8 rfl (by decide)
        refine lv_aload_n hx hb dX12_growOlder_57 rfl (lv_at hl 1 rfl) ?_
        refine va_get (D := D) (ci := 11) (v := .ref q_this_face) (C := RX12) (T := TX12) (N := 65) hx hb hts hin_Model hown hK hP 0 rfl rfl 33 (by decide) (hts (.fieldLink RX12 96 "GutterSeatsModel" "face" "[I") (List.mem_cons_of_mem _ (gm12 0 28 (by first | rfl | decide +kernel)))) (fun _ h9 => h9) rfl dX12_growOlder_58 ?_
        refine lv_iload_n hx hb dX12_growOlder_61 rfl (lv_at hl 2 rfl) ?_
        refine lv_aload_n hx hb dX12_growOlder_62 rfl (lv_at hl 1 rfl) ?_
        refine va_get (D := D) (ci := 11) (v := .ref q_this_face) (C := RX12) (T := TX12) (N := 65) hx hb hts hin_Model hown hK hP 0 rfl rfl 33 (by decide) (hts (.fieldLink RX12 96 "GutterSeatsModel" "face" "[I") (List.mem_cons_of_mem _ (gm12 0 28 (by first | rfl | decide +kernel)))) (fun _ h9 => h9) rfl dX12_growOlder_63 ?_
        refine lv_iload_n hx hb dX12_growOlder_66 rfl (lv_at hl 2 rfl) ?_
        have n22 : vp_in p1 8 := iv_in i_p1 (by decide) (by decide)
        refine va_iald hx hb hK hP 5 0 rfl rfl n22 dX12_growOlder_67 ?_
        refine lv_topi (fun x23 ex23 => ?_)
        replace hR := uy_Ls ex23 hR
        refine lv_aload_n hx hb dX12_growOlder_68 rfl (lv_at hl 1 rfl) ?_
        refine va_get (D := D) (ci := 11) (v := .ref q_this_jaw) (C := RX12) (T := TX12) (N := 65) hx hb hts hin_Model hown hK hP 0 rfl rfl 30 (by decide) (hts (.fieldLink RX12 88 "GutterSeatsModel" "jaw" "[I") (List.mem_cons_of_mem _ (gm12 0 25 (by first | rfl | decide +kernel)))) (fun _ h9 => h9) rfl dX12_growOlder_69 ?_
        refine lv_iload_n hx hb dX12_growOlder_72 rfl (lv_at hl 0 rfl) ?_
        have n24 : vp_in x8 8 := iv_in j21 (by decide) (by decide)
        refine va_iald hx hb hK hP 3 0 rfl rfl n24 dX12_growOlder_73 ?_
        refine lv_topi (fun x25 ex25 => ?_)
        replace hR := uy_Ls ex25 hR
        refine kPS (rest := [.int p1, .ref q_this_face]) ⟨hx, hb, hml, hown, hts⟩ (c_Model_nearer l D ct x23 x25) (va_cwS 2 hts (gInSm gT12_good (gIn0m gT12_good (gm12 4 34 (by first | rfl | decide +kernel))) (gm12 4 36 (by first | rfl | decide +kernel)) (gm12 4 37 (by first | rfl | decide +kernel)) (gm12 1 0 (by first | rfl | decide +kernel))) rfl rfl rfl (by first | exact hdX12_nearer_2.2 | decide +kernel) ⟨(Nat.le_of_ble_eq_true rfl), (Nat.le_of_ble_eq_true rfl)⟩) hK hP [] rfl rfl hl.1 rfl (Nat.le_of_ble_eq_true rfl) dX12_growOlder_74 ⟨(Nat.le_of_ble_eq_true rfl), (Nat.le_of_ble_eq_true rfl)⟩ (fun r26 hr26 => ?_)
        have m27 : r26 = m_Model_nearer x23 x25 := hr26
        replace hR := uy_Cs1 m27 hR
        have n28 : vp_in p1 8 := iv_in i_p1 (by decide) (by decide)
        refine va_iast hx hb hK hP hD hS 5 0 rfl rfl n28 dX12_growOlder_77 (fun H locs hP hD hS => ?_)
        obtain ⟨f29, ef29⟩ : ∃ z : Nat → Int32, z = upd f_this_face p1.toNatClampNeg r26 := ⟨_, rfl⟩
        replace hR := uy_Ls ef29 hR
        rw [← ef29] at hP hD
        have hP : va_P D vwCl [(q_this, .inr (11, [.ref q_this_sorts, .ref q_this_ofWears, .ref q_this_ofSits, .ref q_this_values, .int x_this_code, .ref q_this_told, .ref q_this_jawTold, .ref q_this_browTold, .ref q_this_stoneTold, .ref q_this_orphan, .ref q_this_faceTold, .ref q_this_foreheadTold, .ref q_this_ageTold, .ref q_this_familyTold, .ref q_this_rains, .ref q_this_signsWears, .ref q_this_signsSits, .ref q_this_status, .ref q_this_tape, .int x_this_taped, .int x_this_at, .int x_this_size, .int x_this_token, .int x_this_number, .int x_this_begins, .int x_this_stops, .int x_this_bad, .int x_this_badPlace, .int x_this_faultPlace, .int x_this_ofSitting, .ref q_this_jaw, .ref q_this_brow, .ref q_this_stone, .ref q_this_face, .ref q_this_forehead, .ref q_this_age, .ref q_this_family, .ref q_this_seat, .ref q_this_past, .int x_this_yearNow, .int x_this_acts, .int x_this_seen, .ref q_this_asked, .ref q_this_stack, .int x_this_satDown, .ref q_this_rowThen, .ref q_this_leastBy, .ref q_this_seenWho, .ref q_this_seenIn, .ref q_this_seenJaw, .ref q_this_rowSeen, .ref q_this_fit, .ref q_this_seatThen, .int x_this_fitMany, .ref q_this_gains, .int x_this_seedNow, .int x_this_hasImage, .int x_this_actsThen, .int x_this_seenThen, .ref q_this_imageRow, .ref q_this_pastThen, .ref q_this_seenWhoThen, .ref q_this_seenInThen, .ref q_this_seenJawThen, .ref q_this_statusThen])), (q_this_told, .inl (ct 0, 12, .inl f_this_told)), (q_this_orphan, .inl (ct 0, 16, .inl f_this_orphan)), (q_this_jaw, .inl (ct 0, 8, .inl f_this_jaw)), (q_this_brow, .inl (ct 0, 8, .inl f_this_brow)), (q_this_face, .inl (ct 0, 8, .inl f29)), (q_this_forehead, .inl (ct 0, 8, .inl f_this_forehead)), (q_this_age, .inl (ct 0, 8, .inl f6)), (q_this_family, .inl (ct 0, 8, .inl f_this_family))] H := hP
        have hD : va_D A [(q_this, .inr (11, [.ref q_this_sorts, .ref q_this_ofWears, .ref q_this_ofSits, .ref q_this_values, .int x_this_code, .ref q_this_told, .ref q_this_jawTold, .ref q_this_browTold, .ref q_this_stoneTold, .ref q_this_orphan, .ref q_this_faceTold, .ref q_this_foreheadTold, .ref q_this_ageTold, .ref q_this_familyTold, .ref q_this_rains, .ref q_this_signsWears, .ref q_this_signsSits, .ref q_this_status, .ref q_this_tape, .int x_this_taped, .int x_this_at, .int x_this_size, .int x_this_token, .int x_this_number, .int x_this_begins, .int x_this_stops, .int x_this_bad, .int x_this_badPlace, .int x_this_faultPlace, .int x_this_ofSitting, .ref q_this_jaw, .ref q_this_brow, .ref q_this_stone, .ref q_this_face, .ref q_this_forehead, .ref q_this_age, .ref q_this_family, .ref q_this_seat, .ref q_this_past, .int x_this_yearNow, .int x_this_acts, .int x_this_seen, .ref q_this_asked, .ref q_this_stack, .int x_this_satDown, .ref q_this_rowThen, .ref q_this_leastBy, .ref q_this_seenWho, .ref q_this_seenIn, .ref q_this_seenJaw, .ref q_this_rowSeen, .ref q_this_fit, .ref q_this_seatThen, .int x_this_fitMany, .ref q_this_gains, .int x_this_seedNow, .int x_this_hasImage, .int x_this_actsThen, .int x_this_seenThen, .ref q_this_imageRow, .ref q_this_pastThen, .ref q_this_seenWhoThen, .ref q_this_seenInThen, .ref q_this_seenJawThen, .ref q_this_statusThen])), (q_this_told, .inl (ct 0, 12, .inl f_this_told)), (q_this_orphan, .inl (ct 0, 16, .inl f_this_orphan)), (q_this_jaw, .inl (ct 0, 8, .inl f_this_jaw)), (q_this_brow, .inl (ct 0, 8, .inl f_this_brow)), (q_this_face, .inl (ct 0, 8, .inl f29)), (q_this_forehead, .inl (ct 0, 8, .inl f_this_forehead)), (q_this_age, .inl (ct 0, 8, .inl f6)), (q_this_family, .inl (ct 0, 8, .inl f_this_family))] := hD
        refine lv_aload_n hx hb dX12_growOlder_78 rfl (lv_at hl 1 rfl) ?_
        refine va_get (D := D) (ci := 11) (v := .ref q_this_forehead) (C := RX12) (T := TX12) (N := 65) hx hb hts hin_Model hown hK hP 0 rfl rfl 34 (by decide) (hts (.fieldLink RX12 99 "GutterSeatsModel" "forehead" "[I") (List.mem_cons_of_mem _ (gm12 0 29 (by first | rfl | decide +kernel)))) (fun _ h9 => h9) rfl dX12_growOlder_79 ?_
        refine lv_iload_n hx hb dX12_growOlder_82 rfl (lv_at hl 2 rfl) ?_
        refine lv_aload_n hx hb dX12_growOlder_83 rfl (lv_at hl 1 rfl) ?_
        refine va_get (D := D) (ci := 11) (v := .ref q_this_forehead) (C := RX12) (T := TX12) (N := 65) hx hb hts hin_Model hown hK hP 0 rfl rfl 34 (by decide) (hts (.fieldLink RX12 99 "GutterSeatsModel" "forehead" "[I") (List.mem_cons_of_mem _ (gm12 0 29 (by first | rfl | decide +kernel)))) (fun _ h9 => h9) rfl dX12_growOlder_84 ?_
        refine lv_iload_n hx hb dX12_growOlder_87 rfl (lv_at hl 2 rfl) ?_
        have n30 : vp_in p1 8 := iv_in i_p1 (by decide) (by decide)
        refine va_iald hx hb hK hP 6 0 rfl rfl n30 dX12_growOlder_88 ?_
        refine lv_topi (fun x31 ex31 => ?_)
        replace hR := uy_Ls ex31 hR
        refine lv_aload_n hx hb dX12_growOlder_89 rfl (lv_at hl 1 rfl) ?_
        refine va_get (D := D) (ci := 11) (v := .ref q_this_brow) (C := RX12) (T := TX12) (N := 65) hx hb hts hin_Model hown hK hP 0 rfl rfl 31 (by decide) (hts (.fieldLink RX12 91 "GutterSeatsModel" "brow" "[I") (List.mem_cons_of_mem _ (gm12 0 26 (by first | rfl | decide +kernel)))) (fun _ h9 => h9) rfl dX12_growOlder_90 ?_
        refine lv_iload_n hx hb dX12_growOlder_93 rfl (lv_at hl 0 rfl) ?_
        have n32 : vp_in x8 8 := iv_in j21 (by decide) (by decide)
        refine va_iald hx hb hK hP 4 0 rfl rfl n32 dX12_growOlder_94 ?_
        refine lv_topi (fun x33 ex33 => ?_)
        replace hR := uy_Ls ex33 hR
        refine kPS (rest := [.int p1, .ref q_this_forehead]) ⟨hx, hb, hml, hown, hts⟩ (c_Model_nearer l D ct x31 x33) (va_cwS 2 hts (gInSm gT12_good (gIn0m gT12_good (gm12 4 34 (by first | rfl | decide +kernel))) (gm12 4 36 (by first | rfl | decide +kernel)) (gm12 4 37 (by first | rfl | decide +kernel)) (gm12 1 0 (by first | rfl | decide +kernel))) rfl rfl rfl (by first | exact hdX12_nearer_2.2 | decide +kernel) ⟨(Nat.le_of_ble_eq_true rfl), (Nat.le_of_ble_eq_true rfl)⟩) hK hP [] rfl rfl hl.1 rfl (Nat.le_of_ble_eq_true rfl) dX12_growOlder_95 ⟨(Nat.le_of_ble_eq_true rfl), (Nat.le_of_ble_eq_true rfl)⟩ (fun r34 hr34 => ?_)
        have m35 : r34 = m_Model_nearer x31 x33 := hr34
        replace hR := uy_Cs1 m35 hR
        have n36 : vp_in p1 8 := iv_in i_p1 (by decide) (by decide)
        refine va_iast hx hb hK hP hD hS 6 0 rfl rfl n36 dX12_growOlder_98 (fun H locs hP hD hS => ?_)
        obtain ⟨f37, ef37⟩ : ∃ z : Nat → Int32, z = upd f_this_forehead p1.toNatClampNeg r34 := ⟨_, rfl⟩
        replace hR := uy_Ls ef37 hR
        rw [← ef37] at hP hD
        have hP : va_P D vwCl [(q_this, .inr (11, [.ref q_this_sorts, .ref q_this_ofWears, .ref q_this_ofSits, .ref q_this_values, .int x_this_code, .ref q_this_told, .ref q_this_jawTold, .ref q_this_browTold, .ref q_this_stoneTold, .ref q_this_orphan, .ref q_this_faceTold, .ref q_this_foreheadTold, .ref q_this_ageTold, .ref q_this_familyTold, .ref q_this_rains, .ref q_this_signsWears, .ref q_this_signsSits, .ref q_this_status, .ref q_this_tape, .int x_this_taped, .int x_this_at, .int x_this_size, .int x_this_token, .int x_this_number, .int x_this_begins, .int x_this_stops, .int x_this_bad, .int x_this_badPlace, .int x_this_faultPlace, .int x_this_ofSitting, .ref q_this_jaw, .ref q_this_brow, .ref q_this_stone, .ref q_this_face, .ref q_this_forehead, .ref q_this_age, .ref q_this_family, .ref q_this_seat, .ref q_this_past, .int x_this_yearNow, .int x_this_acts, .int x_this_seen, .ref q_this_asked, .ref q_this_stack, .int x_this_satDown, .ref q_this_rowThen, .ref q_this_leastBy, .ref q_this_seenWho, .ref q_this_seenIn, .ref q_this_seenJaw, .ref q_this_rowSeen, .ref q_this_fit, .ref q_this_seatThen, .int x_this_fitMany, .ref q_this_gains, .int x_this_seedNow, .int x_this_hasImage, .int x_this_actsThen, .int x_this_seenThen, .ref q_this_imageRow, .ref q_this_pastThen, .ref q_this_seenWhoThen, .ref q_this_seenInThen, .ref q_this_seenJawThen, .ref q_this_statusThen])), (q_this_told, .inl (ct 0, 12, .inl f_this_told)), (q_this_orphan, .inl (ct 0, 16, .inl f_this_orphan)), (q_this_jaw, .inl (ct 0, 8, .inl f_this_jaw)), (q_this_brow, .inl (ct 0, 8, .inl f_this_brow)), (q_this_face, .inl (ct 0, 8, .inl f29)), (q_this_forehead, .inl (ct 0, 8, .inl f37)), (q_this_age, .inl (ct 0, 8, .inl f6)), (q_this_family, .inl (ct 0, 8, .inl f_this_family))] H := hP
        have hD : va_D A [(q_this, .inr (11, [.ref q_this_sorts, .ref q_this_ofWears, .ref q_this_ofSits, .ref q_this_values, .int x_this_code, .ref q_this_told, .ref q_this_jawTold, .ref q_this_browTold, .ref q_this_stoneTold, .ref q_this_orphan, .ref q_this_faceTold, .ref q_this_foreheadTold, .ref q_this_ageTold, .ref q_this_familyTold, .ref q_this_rains, .ref q_this_signsWears, .ref q_this_signsSits, .ref q_this_status, .ref q_this_tape, .int x_this_taped, .int x_this_at, .int x_this_size, .int x_this_token, .int x_this_number, .int x_this_begins, .int x_this_stops, .int x_this_bad, .int x_this_badPlace, .int x_this_faultPlace, .int x_this_ofSitting, .ref q_this_jaw, .ref q_this_brow, .ref q_this_stone, .ref q_this_face, .ref q_this_forehead, .ref q_this_age, .ref q_this_family, .ref q_this_seat, .ref q_this_past, .int x_this_yearNow, .int x_this_acts, .int x_this_seen, .ref q_this_asked, .ref q_this_stack, .int x_this_satDown, .ref q_this_rowThen, .ref q_this_leastBy, .ref q_this_seenWho, .ref q_this_seenIn, .ref q_this_seenJaw, .ref q_this_rowSeen, .ref q_this_fit, .ref q_this_seatThen, .int x_this_fitMany, .ref q_this_gains, .int x_this_seedNow, .int x_this_hasImage, .int x_this_actsThen, .int x_this_seenThen, .ref q_this_imageRow, .ref q_this_pastThen, .ref q_this_seenWhoThen, .ref q_this_seenInThen, .ref q_this_seenJawThen, .ref q_this_statusThen])), (q_this_told, .inl (ct 0, 12, .inl f_this_told)), (q_this_orphan, .inl (ct 0, 16, .inl f_this_orphan)), (q_this_jaw, .inl (ct 0, 8, .inl f_this_jaw)), (q_this_brow, .inl (ct 0, 8, .inl f_this_brow)), (q_this_face, .inl (ct 0, 8, .inl f29)), (q_this_forehead, .inl (ct 0, 8, .inl f37)), (q_this_age, .inl (ct 0, 8, .inl f6)), (q_this_family, .inl (ct 0, 8, .inl f_this_family))] := hD
        exact hE (f6, f29, f37) _ _ _ _ ((uy_Q0 hR).symm.trans hRe) hP hD hS dX12_growOlder_99
      ·
        replace hR := uy_Qp c20 hR
        have j38 : iv x8 (-1) (-1) := by rw [c20]; exact (iv_lit (-1 : Int32) (by decide) : iv (-1 : Int32) (-1) (-1))
        exact hE (f6, f_this_face, f_this_forehead) _ _ _ _ ((uy_Q0 hR).symm.trans hRe) hP hD hS dX12_growOlder_56
abbrev rm_Model_seatAt : Room := { frames := 1, cells := 0, slots := 0, locals := 22 }
abbrev wgX12_seatAt : List Cond := .code yX12_seatAt cX12_seatAt 4 none :: gT12
set_option maxHeartbeats 4000000 in
set_option maxRecDepth 100000 in
theorem c_Model_seatAt (l : Launch) (D : va_G) (ct : Nat → ClassId) (q_this q_this_told q_this_seat q_this_sorts q_this_ofWears q_this_ofSits q_this_values q_this_jawTold q_this_browTold q_this_stoneTold q_this_orphan q_this_faceTold q_this_foreheadTold q_this_ageTold q_this_familyTold q_this_rains q_this_signsWears q_this_signsSits q_this_status q_this_tape q_this_jaw q_this_brow q_this_stone q_this_face q_this_forehead q_this_age q_this_family q_this_past q_this_asked q_this_stack q_this_rowThen q_this_leastBy q_this_seenWho q_this_seenIn q_this_seenJaw q_this_rowSeen q_this_fit q_this_seatThen q_this_gains q_this_imageRow q_this_pastThen q_this_seenWhoThen q_this_seenInThen q_this_seenJawThen q_this_statusThen : Nat) (sz : Nat) (x_this_code x_this_taped x_this_at x_this_size x_this_token x_this_number x_this_begins x_this_stops x_this_bad x_this_badPlace x_this_faultPlace x_this_ofSitting x_this_yearNow x_this_acts x_this_seen x_this_satDown x_this_fitMany x_this_seedNow x_this_hasImage x_this_actsThen x_this_seenThen : Int32) (f_this_told f_this_seat : Nat → Int32) (p1 p2 : Int32) (i_x_this_taped : iv x_this_taped 0 700) (i_x_this_ofSitting : iv x_this_ofSitting 0 1) (i_x_this_yearNow : iv x_this_yearNow 0 5000) (i_x_this_acts : iv x_this_acts 0 40) (i_x_this_seen : iv x_this_seen 0 8) (i_x_this_fitMany : iv x_this_fitMany 0 800) (i_x_this_hasImage : iv x_this_hasImage 0 1) (i_x_this_actsThen : iv x_this_actsThen 0 40) (i_x_this_seenThen : iv x_this_seenThen 0 8) (a_f_this_seat : av f_this_seat 8 (-1) 7) (i_p1 : iv p1 0 7) (i_p2 : iv p2 (-1) 7) (tv : tv f_this_told) : cV l yX12_seatAt wgX12_seatAt rm_Model_seatAt D ct [(q_this, .inr (11, [.ref q_this_sorts, .ref q_this_ofWears, .ref q_this_ofSits, .ref q_this_values, .int x_this_code, .ref q_this_told, .ref q_this_jawTold, .ref q_this_browTold, .ref q_this_stoneTold, .ref q_this_orphan, .ref q_this_faceTold, .ref q_this_foreheadTold, .ref q_this_ageTold, .ref q_this_familyTold, .ref q_this_rains, .ref q_this_signsWears, .ref q_this_signsSits, .ref q_this_status, .ref q_this_tape, .int x_this_taped, .int x_this_at, .int x_this_size, .int x_this_token, .int x_this_number, .int x_this_begins, .int x_this_stops, .int x_this_bad, .int x_this_badPlace, .int x_this_faultPlace, .int x_this_ofSitting, .ref q_this_jaw, .ref q_this_brow, .ref q_this_stone, .ref q_this_face, .ref q_this_forehead, .ref q_this_age, .ref q_this_family, .ref q_this_seat, .ref q_this_past, .int x_this_yearNow, .int x_this_acts, .int x_this_seen, .ref q_this_asked, .ref q_this_stack, .int x_this_satDown, .ref q_this_rowThen, .ref q_this_leastBy, .ref q_this_seenWho, .ref q_this_seenIn, .ref q_this_seenJaw, .ref q_this_rowSeen, .ref q_this_fit, .ref q_this_seatThen, .int x_this_fitMany, .ref q_this_gains, .int x_this_seedNow, .int x_this_hasImage, .int x_this_actsThen, .int x_this_seenThen, .ref q_this_imageRow, .ref q_this_pastThen, .ref q_this_seenWhoThen, .ref q_this_seenInThen, .ref q_this_seenJawThen, .ref q_this_statusThen])), (q_this_told, .inl (ct 0, 12, .inl f_this_told)), (q_this_seat, .inl (ct 0, 8, .inl f_this_seat))] sz [.ref q_this, .int p1, .int p2] (fun u : (Nat → Int32) => av u 8 (-1) 7 ∧ u = m_Model_seatAt f_this_told f_this_seat p1 p2) (fun u : (Nat → Int32) => [(q_this, .inr (11, [.ref q_this_sorts, .ref q_this_ofWears, .ref q_this_ofSits, .ref q_this_values, .int x_this_code, .ref q_this_told, .ref q_this_jawTold, .ref q_this_browTold, .ref q_this_stoneTold, .ref q_this_orphan, .ref q_this_faceTold, .ref q_this_foreheadTold, .ref q_this_ageTold, .ref q_this_familyTold, .ref q_this_rains, .ref q_this_signsWears, .ref q_this_signsSits, .ref q_this_status, .ref q_this_tape, .int x_this_taped, .int x_this_at, .int x_this_size, .int x_this_token, .int x_this_number, .int x_this_begins, .int x_this_stops, .int x_this_bad, .int x_this_badPlace, .int x_this_faultPlace, .int x_this_ofSitting, .ref q_this_jaw, .ref q_this_brow, .ref q_this_stone, .ref q_this_face, .ref q_this_forehead, .ref q_this_age, .ref q_this_family, .ref q_this_seat, .ref q_this_past, .int x_this_yearNow, .int x_this_acts, .int x_this_seen, .ref q_this_asked, .ref q_this_stack, .int x_this_satDown, .ref q_this_rowThen, .ref q_this_leastBy, .ref q_this_seenWho, .ref q_this_seenIn, .ref q_this_seenJaw, .ref q_this_rowSeen, .ref q_this_fit, .ref q_this_seatThen, .int x_this_fitMany, .ref q_this_gains, .int x_this_seedNow, .int x_this_hasImage, .int x_this_actsThen, .int x_this_seenThen, .ref q_this_imageRow, .ref q_this_pastThen, .ref q_this_seenWhoThen, .ref q_this_seenInThen, .ref q_this_seenJawThen, .ref q_this_statusThen])), (q_this_told, .inl (ct 0, 12, .inl f_this_told)), (q_this_seat, .inl (ct 0, 8, .inl u))]) := by
  refine cV_of (cc := cX12_seatAt) (maxL := 4) (by decide) rfl (Nat.le_of_ble_eq_true rfl) ?_
  intro p e s m args below meth c Q A hx hb hml hts hown hK hP hD hA hAe hsz hname hE ls hl
  have hS : va_S A s.heap s.heap [] := va_S.rf
  have hP : va_P D vwCl [(q_this, .inr (11, [.ref q_this_sorts, .ref q_this_ofWears, .ref q_this_ofSits, .ref q_this_values, .int x_this_code, .ref q_this_told, .ref q_this_jawTold, .ref q_this_browTold, .ref q_this_stoneTold, .ref q_this_orphan, .ref q_this_faceTold, .ref q_this_foreheadTold, .ref q_this_ageTold, .ref q_this_familyTold, .ref q_this_rains, .ref q_this_signsWears, .ref q_this_signsSits, .ref q_this_status, .ref q_this_tape, .int x_this_taped, .int x_this_at, .int x_this_size, .int x_this_token, .int x_this_number, .int x_this_begins, .int x_this_stops, .int x_this_bad, .int x_this_badPlace, .int x_this_faultPlace, .int x_this_ofSitting, .ref q_this_jaw, .ref q_this_brow, .ref q_this_stone, .ref q_this_face, .ref q_this_forehead, .ref q_this_age, .ref q_this_family, .ref q_this_seat, .ref q_this_past, .int x_this_yearNow, .int x_this_acts, .int x_this_seen, .ref q_this_asked, .ref q_this_stack, .int x_this_satDown, .ref q_this_rowThen, .ref q_this_leastBy, .ref q_this_seenWho, .ref q_this_seenIn, .ref q_this_seenJaw, .ref q_this_rowSeen, .ref q_this_fit, .ref q_this_seatThen, .int x_this_fitMany, .ref q_this_gains, .int x_this_seedNow, .int x_this_hasImage, .int x_this_actsThen, .int x_this_seenThen, .ref q_this_imageRow, .ref q_this_pastThen, .ref q_this_seenWhoThen, .ref q_this_seenInThen, .ref q_this_seenJawThen, .ref q_this_statusThen])), (q_this_told, .inl (ct 0, 12, .inl f_this_told)), (q_this_seat, .inl (ct 0, 8, .inl f_this_seat))] s.heap := hP
  have hD : va_D A [(q_this, .inr (11, [.ref q_this_sorts, .ref q_this_ofWears, .ref q_this_ofSits, .ref q_this_values, .int x_this_code, .ref q_this_told, .ref q_this_jawTold, .ref q_this_browTold, .ref q_this_stoneTold, .ref q_this_orphan, .ref q_this_faceTold, .ref q_this_foreheadTold, .ref q_this_ageTold, .ref q_this_familyTold, .ref q_this_rains, .ref q_this_signsWears, .ref q_this_signsSits, .ref q_this_status, .ref q_this_tape, .int x_this_taped, .int x_this_at, .int x_this_size, .int x_this_token, .int x_this_number, .int x_this_begins, .int x_this_stops, .int x_this_bad, .int x_this_badPlace, .int x_this_faultPlace, .int x_this_ofSitting, .ref q_this_jaw, .ref q_this_brow, .ref q_this_stone, .ref q_this_face, .ref q_this_forehead, .ref q_this_age, .ref q_this_family, .ref q_this_seat, .ref q_this_past, .int x_this_yearNow, .int x_this_acts, .int x_this_seen, .ref q_this_asked, .ref q_this_stack, .int x_this_satDown, .ref q_this_rowThen, .ref q_this_leastBy, .ref q_this_seenWho, .ref q_this_seenIn, .ref q_this_seenJaw, .ref q_this_rowSeen, .ref q_this_fit, .ref q_this_seatThen, .int x_this_fitMany, .ref q_this_gains, .int x_this_seedNow, .int x_this_hasImage, .int x_this_actsThen, .int x_this_seenThen, .ref q_this_imageRow, .ref q_this_pastThen, .ref q_this_seenWhoThen, .ref q_this_seenInThen, .ref q_this_seenJawThen, .ref q_this_statusThen])), (q_this_told, .inl (ct 0, 12, .inl f_this_told)), (q_this_seat, .inl (ct 0, 8, .inl f_this_seat))] := hD
  have mG : ∀ (i : Nat) {w : Cond}, gT12[i]? = some w → w ∈ wgX12_seatAt := fun i w h => List.mem_cons_of_mem _ (List.mem_of_getElem? h)
  have hl : lv_has ls 4 [(0, .ref q_this), (1, .int p1), (2, .int p2)] := hl
  obtain ⟨R, hRe⟩ : ∃ R : ((Nat → Int32)), R = m_Model_seatAt f_this_told f_this_seat p1 p2 := ⟨_, rfl⟩
  have hR : uy_Q R (fun z : ((Nat → Int32)) => z) (m_Model_seatAt f_this_told f_this_seat p1 p2) := hRe
  have hin_Model : ∀ w ∈ u_ws RX12 TX12 65, w ∈ wgX12_seatAt := fun w h => List.mem_cons_of_mem _ (ingT12_X12 w h)
  have K18 : ∀ (f_this_seatc18 : Nat → Int32) (H : Heap) (locs : List Loc) (ls : Array Slot), av f_this_seatc18 8 (-1) 7 → uy_Q R (fun z : ((Nat → Int32)) => z) (m_Model_seatAt_k18 f_this_told f_this_seat p1 p2 f_this_seatc18) → va_P D vwCl [(q_this, .inr (11, [.ref q_this_sorts, .ref q_this_ofWears, .ref q_this_ofSits, .ref q_this_values, .int x_this_code, .ref q_this_told, .ref q_this_jawTold, .ref q_this_browTold, .ref q_this_stoneTold, .ref q_this_orphan, .ref q_this_faceTold, .ref q_this_foreheadTold, .ref q_this_ageTold, .ref q_this_familyTold, .ref q_this_rains, .ref q_this_signsWears, .ref q_this_signsSits, .ref q_this_status, .ref q_this_tape, .int x_this_taped, .int x_this_at, .int x_this_size, .int x_this_token, .int x_this_number, .int x_this_begins, .int x_this_stops, .int x_this_bad, .int x_this_badPlace, .int x_this_faultPlace, .int x_this_ofSitting, .ref q_this_jaw, .ref q_this_brow, .ref q_this_stone, .ref q_this_face, .ref q_this_forehead, .ref q_this_age, .ref q_this_family, .ref q_this_seat, .ref q_this_past, .int x_this_yearNow, .int x_this_acts, .int x_this_seen, .ref q_this_asked, .ref q_this_stack, .int x_this_satDown, .ref q_this_rowThen, .ref q_this_leastBy, .ref q_this_seenWho, .ref q_this_seenIn, .ref q_this_seenJaw, .ref q_this_rowSeen, .ref q_this_fit, .ref q_this_seatThen, .int x_this_fitMany, .ref q_this_gains, .int x_this_seedNow, .int x_this_hasImage, .int x_this_actsThen, .int x_this_seenThen, .ref q_this_imageRow, .ref q_this_pastThen, .ref q_this_seenWhoThen, .ref q_this_seenInThen, .ref q_this_seenJawThen, .ref q_this_statusThen])), (q_this_told, .inl (ct 0, 12, .inl f_this_told)), (q_this_seat, .inl (ct 0, 8, .inl f_this_seatc18))] H → va_D A [(q_this, .inr (11, [.ref q_this_sorts, .ref q_this_ofWears, .ref q_this_ofSits, .ref q_this_values, .int x_this_code, .ref q_this_told, .ref q_this_jawTold, .ref q_this_browTold, .ref q_this_stoneTold, .ref q_this_orphan, .ref q_this_faceTold, .ref q_this_foreheadTold, .ref q_this_ageTold, .ref q_this_familyTold, .ref q_this_rains, .ref q_this_signsWears, .ref q_this_signsSits, .ref q_this_status, .ref q_this_tape, .int x_this_taped, .int x_this_at, .int x_this_size, .int x_this_token, .int x_this_number, .int x_this_begins, .int x_this_stops, .int x_this_bad, .int x_this_badPlace, .int x_this_faultPlace, .int x_this_ofSitting, .ref q_this_jaw, .ref q_this_brow, .ref q_this_stone, .ref q_this_face, .ref q_this_forehead, .ref q_this_age, .ref q_this_family, .ref q_this_seat, .ref q_this_past, .int x_this_yearNow, .int x_this_acts, .int x_this_seen, .ref q_this_asked, .ref q_this_stack, .int x_this_satDown, .ref q_this_rowThen, .ref q_this_leastBy, .ref q_this_seenWho, .ref q_this_seenIn, .ref q_this_seenJaw, .ref q_this_rowSeen, .ref q_this_fit, .ref q_this_seatThen, .int x_this_fitMany, .ref q_this_gains, .int x_this_seedNow, .int x_this_hasImage, .int x_this_actsThen, .int x_this_seenThen, .ref q_this_imageRow, .ref q_this_pastThen, .ref q_this_seenWhoThen, .ref q_this_seenInThen, .ref q_this_seenJawThen, .ref q_this_statusThen])), (q_this_told, .inl (ct 0, 12, .inl f_this_told)), (q_this_seat, .inl (ct 0, 8, .inl f_this_seatc18))] → va_S A s.heap H locs → lv_has ls 4 [(0, .ref q_this), (1, .int p1), (2, .int p2)] → W p l e rm_Model_seatAt s m args below meth c H locs 0 0 Q (F0 m 18 ls []) := by
    intro f_this_seatc18 H locs ls a_f_this_seatc18 hR hP hD hS hl
    delta m_Model_seatAt_k18 at hR
    refine lv_aload_n hx hb dX12_seatAt_18 rfl (lv_at hl 0 rfl) ?_
    refine va_get (D := D) (ci := 11) (v := .ref q_this_seat) (C := RX12) (T := TX12) (N := 65) hx hb hts hin_Model hown hK hP 0 rfl rfl 37 (by decide) (hts (.fieldLink RX12 106 "GutterSeatsModel" "seat" "[I") (List.mem_cons_of_mem _ (gm12 0 32 (by first | rfl | decide +kernel)))) (fun _ h9 => h9) rfl dX12_seatAt_19 ?_
    refine lv_iload_n hx hb dX12_seatAt_22 rfl (lv_at hl 1 rfl) ?_
    refine lv_iload_n hx hb dX12_seatAt_23 rfl (lv_at hl 2 rfl) ?_
    have n1 : vp_in p1 8 := iv_in i_p1 (by decide) (by decide)
    refine va_iast hx hb hK hP hD hS 2 0 rfl rfl n1 dX12_seatAt_24 (fun H locs hP hD hS => ?_)
    obtain ⟨f2, ef2⟩ : ∃ z : Nat → Int32, z = upd f_this_seatc18 p1.toNatClampNeg p2 := ⟨_, rfl⟩
    replace hR := uy_Ls ef2 hR
    rw [← ef2] at hP hD
    have hP : va_P D vwCl [(q_this, .inr (11, [.ref q_this_sorts, .ref q_this_ofWears, .ref q_this_ofSits, .ref q_this_values, .int x_this_code, .ref q_this_told, .ref q_this_jawTold, .ref q_this_browTold, .ref q_this_stoneTold, .ref q_this_orphan, .ref q_this_faceTold, .ref q_this_foreheadTold, .ref q_this_ageTold, .ref q_this_familyTold, .ref q_this_rains, .ref q_this_signsWears, .ref q_this_signsSits, .ref q_this_status, .ref q_this_tape, .int x_this_taped, .int x_this_at, .int x_this_size, .int x_this_token, .int x_this_number, .int x_this_begins, .int x_this_stops, .int x_this_bad, .int x_this_badPlace, .int x_this_faultPlace, .int x_this_ofSitting, .ref q_this_jaw, .ref q_this_brow, .ref q_this_stone, .ref q_this_face, .ref q_this_forehead, .ref q_this_age, .ref q_this_family, .ref q_this_seat, .ref q_this_past, .int x_this_yearNow, .int x_this_acts, .int x_this_seen, .ref q_this_asked, .ref q_this_stack, .int x_this_satDown, .ref q_this_rowThen, .ref q_this_leastBy, .ref q_this_seenWho, .ref q_this_seenIn, .ref q_this_seenJaw, .ref q_this_rowSeen, .ref q_this_fit, .ref q_this_seatThen, .int x_this_fitMany, .ref q_this_gains, .int x_this_seedNow, .int x_this_hasImage, .int x_this_actsThen, .int x_this_seenThen, .ref q_this_imageRow, .ref q_this_pastThen, .ref q_this_seenWhoThen, .ref q_this_seenInThen, .ref q_this_seenJawThen, .ref q_this_statusThen])), (q_this_told, .inl (ct 0, 12, .inl f_this_told)), (q_this_seat, .inl (ct 0, 8, .inl f2))] H := hP
    have hD : va_D A [(q_this, .inr (11, [.ref q_this_sorts, .ref q_this_ofWears, .ref q_this_ofSits, .ref q_this_values, .int x_this_code, .ref q_this_told, .ref q_this_jawTold, .ref q_this_browTold, .ref q_this_stoneTold, .ref q_this_orphan, .ref q_this_faceTold, .ref q_this_foreheadTold, .ref q_this_ageTold, .ref q_this_familyTold, .ref q_this_rains, .ref q_this_signsWears, .ref q_this_signsSits, .ref q_this_status, .ref q_this_tape, .int x_this_taped, .int x_this_at, .int x_this_size, .int x_this_token, .int x_this_number, .int x_this_begins, .int x_this_stops, .int x_this_bad, .int x_this_badPlace, .int x_this_faultPlace, .int x_this_ofSitting, .ref q_this_jaw, .ref q_this_brow, .ref q_this_stone, .ref q_this_face, .ref q_this_forehead, .ref q_this_age, .ref q_this_family, .ref q_this_seat, .ref q_this_past, .int x_this_yearNow, .int x_this_acts, .int x_this_seen, .ref q_this_asked, .ref q_this_stack, .int x_this_satDown, .ref q_this_rowThen, .ref q_this_leastBy, .ref q_this_seenWho, .ref q_this_seenIn, .ref q_this_seenJaw, .ref q_this_rowSeen, .ref q_this_fit, .ref q_this_seatThen, .int x_this_fitMany, .ref q_this_gains, .int x_this_seedNow, .int x_this_hasImage, .int x_this_actsThen, .int x_this_seenThen, .ref q_this_imageRow, .ref q_this_pastThen, .ref q_this_seenWhoThen, .ref q_this_seenInThen, .ref q_this_seenJawThen, .ref q_this_statusThen])), (q_this_told, .inl (ct 0, 12, .inl f_this_told)), (q_this_seat, .inl (ct 0, 8, .inl f2))] := hD
    have a_f2 : av f2 8 (-1) 7 := by rw [ef2]; exact av_upd a_f_this_seatc18 _ i_p2
    exact hE f2 _ _ _ _ ⟨a_f2, ((uy_Q0 hR).symm.trans hRe)⟩ hP hD hS dX12_seatAt_25
  delta m_Model_seatAt at hR
  refine lv_aload_n hx hb dX12_seatAt_0 rfl (lv_at hl 0 rfl) ?_
  refine lv_iload_n hx hb dX12_seatAt_1 rfl (lv_at hl 2 rfl) ?_
  refine kPV (rest := []) (ci := 11) ⟨hx, hb, hml, hown, hts⟩ (c_Model_sitterOf l D ct q_this q_this_told q_this_seat q_this_sorts q_this_ofWears q_this_ofSits q_this_values q_this_jawTold q_this_browTold q_this_stoneTold q_this_orphan q_this_faceTold q_this_foreheadTold q_this_ageTold q_this_familyTold q_this_rains q_this_signsWears q_this_signsSits q_this_status q_this_tape q_this_jaw q_this_brow q_this_stone q_this_face q_this_forehead q_this_age q_this_family q_this_past q_this_asked q_this_stack q_this_rowThen q_this_leastBy q_this_seenWho q_this_seenIn q_this_seenJaw q_this_rowSeen q_this_fit q_this_seatThen q_this_gains q_this_imageRow q_this_pastThen q_this_seenWhoThen q_this_seenInThen q_this_seenJawThen q_this_statusThen x_this_code x_this_taped x_this_at x_this_size x_this_token x_this_number x_this_begins x_this_stops x_this_bad x_this_badPlace x_this_faultPlace x_this_ofSitting x_this_yearNow x_this_acts x_this_seen x_this_satDown x_this_fitMany x_this_seedNow x_this_hasImage x_this_actsThen x_this_seenThen f_this_told f_this_seat p2 i_x_this_taped i_x_this_ofSitting i_x_this_yearNow i_x_this_acts i_x_this_seen i_x_this_fitMany i_x_this_hasImage i_x_this_actsThen i_x_this_seenThen a_f_this_seat tv) (cwV 1 hts (gInVm gT12_good (gIn0m gT12_good (gm12 4 6 (by first | rfl | decide +kernel))) (gm12 4 28 (by first | rfl | decide +kernel)) (gm12 4 29 (by first | rfl | decide +kernel)) (gm12 4 30 (by first | rfl | decide +kernel)) (gm12 1 0 (by first | rfl | decide +kernel))) rfl rfl rfl (by first | exact hdX12_sitterOf_1 | decide +kernel) ⟨(Nat.le_of_ble_eq_true rfl), (Nat.le_of_ble_eq_true rfl)⟩) hK hP [0, 1, 2] rfl rfl rfl rfl rfl hl.1 rfl (Nat.le_of_ble_eq_true rfl) dX12_seatAt_2 ⟨(Nat.le_of_ble_eq_true rfl), (Nat.le_of_ble_eq_true rfl)⟩ (fun r3 hr3 => ?_)
  have i_r3 : iv r3 (-1) 7 := hr3.1
  have m4 : r3 = m_Model_sitterOf f_this_told f_this_seat p2 := hr3.2
  replace hR := uy_Cs1 m4 hR
  refine lv_istore_n (lv' := [(3, .int r3), (0, .ref q_this), (1, .int p1), (2, .int p2)]) hx hb dX12_seatAt_5 rfl hl (by decide) rfl (fun ls hl => ?_)
  refine lv_iload_n hx hb dX12_seatAt_6 rfl (lv_at hl 0 rfl) ?_
  refine lv_iconst (v := -1) hx hb dX12_seatAt_7 (by decide) ?_
  refine lv_icmp_eq (tgt := 18) hx hb dX12_seatAt_8 (by decide) (fun c5 => ?_) (fun c5 => ?_)
  ·
    replace hR := uy_Qp c5 hR
    have j6 : iv r3 (-1) (-1) := by rw [c5]; exact (iv_lit (-1 : Int32) (by decide) : iv (-1 : Int32) (-1) (-1))
    exact K18 f_this_seat _ _ ls a_f_this_seat hR hP hD hS (lv_sub hl [1, 2, 3] rfl)
  ·
    replace hR := uy_Qn c5 hR
    have j7 : iv r3 0 7 := iv_neL c5 i_r3 rfl (by decide)
    refine lv_aload_n hx hb dX12_seatAt_11 rfl (lv_at hl 1 rfl) ?_
    refine va_get (D := D) (ci := 11) (v := .ref q_this_seat) (C := RX12) (T := TX12) (N := 65) hx hb hts hin_Model hown hK hP 0 rfl rfl 37 (by decide) (hts (.fieldLink RX12 106 "GutterSeatsModel" "seat" "[I") (List.mem_cons_of_mem _ (gm12 0 32 (by first | rfl | decide +kernel)))) (fun _ h9 => h9) rfl dX12_seatAt_12 ?_
    refine lv_iload_n hx hb dX12_seatAt_15 rfl (lv_at hl 0 rfl) ?_
    refine lv_iconst (v := -1) hx hb dX12_seatAt_16 (by decide) ?_
    have n8 : vp_in r3 8 := iv_in j7 (by decide) (by decide)
    refine va_iast hx hb hK hP hD hS 2 0 rfl rfl n8 dX12_seatAt_17 (fun H locs hP hD hS => ?_)
    obtain ⟨f9, ef9⟩ : ∃ z : Nat → Int32, z = upd f_this_seat r3.toNatClampNeg (-1 : Int32) := ⟨_, rfl⟩
    replace hR := uy_Ls ef9 hR
    rw [← ef9] at hP hD
    have hP : va_P D vwCl [(q_this, .inr (11, [.ref q_this_sorts, .ref q_this_ofWears, .ref q_this_ofSits, .ref q_this_values, .int x_this_code, .ref q_this_told, .ref q_this_jawTold, .ref q_this_browTold, .ref q_this_stoneTold, .ref q_this_orphan, .ref q_this_faceTold, .ref q_this_foreheadTold, .ref q_this_ageTold, .ref q_this_familyTold, .ref q_this_rains, .ref q_this_signsWears, .ref q_this_signsSits, .ref q_this_status, .ref q_this_tape, .int x_this_taped, .int x_this_at, .int x_this_size, .int x_this_token, .int x_this_number, .int x_this_begins, .int x_this_stops, .int x_this_bad, .int x_this_badPlace, .int x_this_faultPlace, .int x_this_ofSitting, .ref q_this_jaw, .ref q_this_brow, .ref q_this_stone, .ref q_this_face, .ref q_this_forehead, .ref q_this_age, .ref q_this_family, .ref q_this_seat, .ref q_this_past, .int x_this_yearNow, .int x_this_acts, .int x_this_seen, .ref q_this_asked, .ref q_this_stack, .int x_this_satDown, .ref q_this_rowThen, .ref q_this_leastBy, .ref q_this_seenWho, .ref q_this_seenIn, .ref q_this_seenJaw, .ref q_this_rowSeen, .ref q_this_fit, .ref q_this_seatThen, .int x_this_fitMany, .ref q_this_gains, .int x_this_seedNow, .int x_this_hasImage, .int x_this_actsThen, .int x_this_seenThen, .ref q_this_imageRow, .ref q_this_pastThen, .ref q_this_seenWhoThen, .ref q_this_seenInThen, .ref q_this_seenJawThen, .ref q_this_statusThen])), (q_this_told, .inl (ct 0, 12, .inl f_this_told)), (q_this_seat, .inl (ct 0, 8, .inl f9))] H := hP
    have hD : va_D A [(q_this, .inr (11, [.ref q_this_sorts, .ref q_this_ofWears, .ref q_this_ofSits, .ref q_this_values, .int x_this_code, .ref q_this_told, .ref q_this_jawTold, .ref q_this_browTold, .ref q_this_stoneTold, .ref q_this_orphan, .ref q_this_faceTold, .ref q_this_foreheadTold, .ref q_this_ageTold, .ref q_this_familyTold, .ref q_this_rains, .ref q_this_signsWears, .ref q_this_signsSits, .ref q_this_status, .ref q_this_tape, .int x_this_taped, .int x_this_at, .int x_this_size, .int x_this_token, .int x_this_number, .int x_this_begins, .int x_this_stops, .int x_this_bad, .int x_this_badPlace, .int x_this_faultPlace, .int x_this_ofSitting, .ref q_this_jaw, .ref q_this_brow, .ref q_this_stone, .ref q_this_face, .ref q_this_forehead, .ref q_this_age, .ref q_this_family, .ref q_this_seat, .ref q_this_past, .int x_this_yearNow, .int x_this_acts, .int x_this_seen, .ref q_this_asked, .ref q_this_stack, .int x_this_satDown, .ref q_this_rowThen, .ref q_this_leastBy, .ref q_this_seenWho, .ref q_this_seenIn, .ref q_this_seenJaw, .ref q_this_rowSeen, .ref q_this_fit, .ref q_this_seatThen, .int x_this_fitMany, .ref q_this_gains, .int x_this_seedNow, .int x_this_hasImage, .int x_this_actsThen, .int x_this_seenThen, .ref q_this_imageRow, .ref q_this_pastThen, .ref q_this_seenWhoThen, .ref q_this_seenInThen, .ref q_this_seenJawThen, .ref q_this_statusThen])), (q_this_told, .inl (ct 0, 12, .inl f_this_told)), (q_this_seat, .inl (ct 0, 8, .inl f9))] := hD
    have a_f9 : av f9 8 (-1) 7 := by rw [ef9]; exact av_upd a_f_this_seat _ (iv_lit (-1 : Int32) (by decide) : iv (-1 : Int32) (-1) 7)
    exact K18 f9 _ _ ls a_f9 hR hP hD hS (lv_sub hl [1, 2, 3] rfl)
abbrev rm_Model_goesOn : Room := { frames := 0, cells := 0, slots := 0, locals := 0 }
abbrev wgX12_goesOn : List Cond := .code yX12_goesOn cX12_goesOn 3 (some .int) :: gT12
set_option maxHeartbeats 4000000 in
set_option maxRecDepth 100000 in
theorem c_Model_goesOn (l : Launch) (D : va_G) (ct : Nat → ClassId) (q_this q_this_leastBy q_this_sorts q_this_ofWears q_this_ofSits q_this_values q_this_told q_this_jawTold q_this_browTold q_this_stoneTold q_this_orphan q_this_faceTold q_this_foreheadTold q_this_ageTold q_this_familyTold q_this_rains q_this_signsWears q_this_signsSits q_this_status q_this_tape q_this_jaw q_this_brow q_this_stone q_this_face q_this_forehead q_this_age q_this_family q_this_seat q_this_past q_this_asked q_this_stack q_this_rowThen q_this_seenWho q_this_seenIn q_this_seenJaw q_this_rowSeen q_this_fit q_this_seatThen q_this_gains q_this_imageRow q_this_pastThen q_this_seenWhoThen q_this_seenInThen q_this_seenJawThen q_this_statusThen : Nat) (x_this_code x_this_taped x_this_at x_this_size x_this_token x_this_number x_this_begins x_this_stops x_this_bad x_this_badPlace x_this_faultPlace x_this_ofSitting x_this_yearNow x_this_acts x_this_seen x_this_satDown x_this_fitMany x_this_seedNow x_this_hasImage x_this_actsThen x_this_seenThen : Int32) (f_this_leastBy : Nat → Int32) (p1 p2 : Int32) (i_x_this_taped : iv x_this_taped 0 700) (i_x_this_ofSitting : iv x_this_ofSitting 0 1) (i_x_this_yearNow : iv x_this_yearNow 0 5000) (i_x_this_acts : iv x_this_acts 0 40) (i_x_this_seen : iv x_this_seen 0 8) (i_x_this_fitMany : iv x_this_fitMany 0 800) (i_x_this_hasImage : iv x_this_hasImage 0 1) (i_x_this_actsThen : iv x_this_actsThen 0 40) (i_x_this_seenThen : iv x_this_seenThen 0 8) (i_p1 : iv p1 0 7) (i_p2 : iv p2 0 255) : cP l yX12_goesOn wgX12_goesOn rm_Model_goesOn D ct [(q_this, .inr (11, [.ref q_this_sorts, .ref q_this_ofWears, .ref q_this_ofSits, .ref q_this_values, .int x_this_code, .ref q_this_told, .ref q_this_jawTold, .ref q_this_browTold, .ref q_this_stoneTold, .ref q_this_orphan, .ref q_this_faceTold, .ref q_this_foreheadTold, .ref q_this_ageTold, .ref q_this_familyTold, .ref q_this_rains, .ref q_this_signsWears, .ref q_this_signsSits, .ref q_this_status, .ref q_this_tape, .int x_this_taped, .int x_this_at, .int x_this_size, .int x_this_token, .int x_this_number, .int x_this_begins, .int x_this_stops, .int x_this_bad, .int x_this_badPlace, .int x_this_faultPlace, .int x_this_ofSitting, .ref q_this_jaw, .ref q_this_brow, .ref q_this_stone, .ref q_this_face, .ref q_this_forehead, .ref q_this_age, .ref q_this_family, .ref q_this_seat, .ref q_this_past, .int x_this_yearNow, .int x_this_acts, .int x_this_seen, .ref q_this_asked, .ref q_this_stack, .int x_this_satDown, .ref q_this_rowThen, .ref q_this_leastBy, .ref q_this_seenWho, .ref q_this_seenIn, .ref q_this_seenJaw, .ref q_this_rowSeen, .ref q_this_fit, .ref q_this_seatThen, .int x_this_fitMany, .ref q_this_gains, .int x_this_seedNow, .int x_this_hasImage, .int x_this_actsThen, .int x_this_seenThen, .ref q_this_imageRow, .ref q_this_pastThen, .ref q_this_seenWhoThen, .ref q_this_seenInThen, .ref q_this_seenJawThen, .ref q_this_statusThen])), (q_this_leastBy, .inl (ct 0, 2304, .inl f_this_leastBy))] [.ref q_this, .int p1, .int p2] (fun r : Int32 => r = m_Model_goesOn f_this_leastBy p1 p2) := by
  refine cP_of (cc := cX12_goesOn) (maxL := 3) (by decide) rfl (Nat.le_of_ble_eq_true rfl) ?_
  intro p e s m args below meth c Q hx hb hml hts hown hK hP hE ls hl
  have hP : va_P D vwCl [(q_this, .inr (11, [.ref q_this_sorts, .ref q_this_ofWears, .ref q_this_ofSits, .ref q_this_values, .int x_this_code, .ref q_this_told, .ref q_this_jawTold, .ref q_this_browTold, .ref q_this_stoneTold, .ref q_this_orphan, .ref q_this_faceTold, .ref q_this_foreheadTold, .ref q_this_ageTold, .ref q_this_familyTold, .ref q_this_rains, .ref q_this_signsWears, .ref q_this_signsSits, .ref q_this_status, .ref q_this_tape, .int x_this_taped, .int x_this_at, .int x_this_size, .int x_this_token, .int x_this_number, .int x_this_begins, .int x_this_stops, .int x_this_bad, .int x_this_badPlace, .int x_this_faultPlace, .int x_this_ofSitting, .ref q_this_jaw, .ref q_this_brow, .ref q_this_stone, .ref q_this_face, .ref q_this_forehead, .ref q_this_age, .ref q_this_family, .ref q_this_seat, .ref q_this_past, .int x_this_yearNow, .int x_this_acts, .int x_this_seen, .ref q_this_asked, .ref q_this_stack, .int x_this_satDown, .ref q_this_rowThen, .ref q_this_leastBy, .ref q_this_seenWho, .ref q_this_seenIn, .ref q_this_seenJaw, .ref q_this_rowSeen, .ref q_this_fit, .ref q_this_seatThen, .int x_this_fitMany, .ref q_this_gains, .int x_this_seedNow, .int x_this_hasImage, .int x_this_actsThen, .int x_this_seenThen, .ref q_this_imageRow, .ref q_this_pastThen, .ref q_this_seenWhoThen, .ref q_this_seenInThen, .ref q_this_seenJawThen, .ref q_this_statusThen])), (q_this_leastBy, .inl (ct 0, 2304, .inl f_this_leastBy))] s.heap := hP
  have mG : ∀ (i : Nat) {w : Cond}, gT12[i]? = some w → w ∈ wgX12_goesOn := fun i w h => List.mem_cons_of_mem _ (List.mem_of_getElem? h)
  have hl : lv_has ls 3 [(0, .ref q_this), (1, .int p1), (2, .int p2)] := hl
  obtain ⟨R, hRe⟩ : ∃ R : (Int32), R = m_Model_goesOn f_this_leastBy p1 p2 := ⟨_, rfl⟩
  have hR : uy_Q R (fun z : (Int32) => z) (m_Model_goesOn f_this_leastBy p1 p2) := hRe
  have hin_Model : ∀ w ∈ u_ws RX12 TX12 65, w ∈ wgX12_goesOn := fun w h => List.mem_cons_of_mem _ (ingT12_X12 w h)
  delta m_Model_goesOn at hR
  refine lv_aload_n hx hb dX12_goesOn_0 rfl (lv_at hl 0 rfl) ?_
  refine va_get (D := D) (ci := 11) (v := .ref q_this_leastBy) (C := RX12) (T := TX12) (N := 65) hx hb hts hin_Model hown hK hP 0 rfl rfl 46 (by decide) (hts (.fieldLink RX12 121 "GutterSeatsModel" "leastBy" "[I") (List.mem_cons_of_mem _ (gm12 0 37 (by first | rfl | decide +kernel)))) (fun _ h9 => h9) rfl dX12_goesOn_1 ?_
  refine lv_iload_n hx hb dX12_goesOn_4 rfl (lv_at hl 1 rfl) ?_
  refine lv_iconst (v := 1) hx hb dX12_goesOn_5 (by decide) ?_
  refine lv_iadd hx hb dX12_goesOn_6 ?_
  refine lv_topi (fun x1 ex1 => ?_)
  replace hR := uy_Ls ex1 hR
  have i_x1 : iv x1 1 8 := iv_add ex1 i_p1 (iv_lit (1 : Int32) (by decide) : iv (1 : Int32) 1 1) (by decide) (by decide) (by decide) (by decide)
  refine lv_bipush (v := 8) hx hb dX12_goesOn_7 (by decide) ?_
  refine lv_ishl hx hb dX12_goesOn_9 ?_
  refine lv_topi (fun x2 ex2 => ?_)
  replace hR := uy_Ls ex2 hR
  have i_x2 : iv x2 0 2048 := iv_shlK 8 ex2 (iv_w i_x1 (by decide) (by decide) : iv _ 0 8) rfl (by decide) (by decide)
  refine lv_iload_n hx hb dX12_goesOn_10 rfl (lv_at hl 2 rfl) ?_
  refine lv_iadd hx hb dX12_goesOn_11 ?_
  refine lv_topi (fun x3 ex3 => ?_)
  replace hR := uy_Ls ex3 hR
  have i_x3 : iv x3 0 2303 := iv_add ex3 i_x2 i_p2 (by decide) (by decide) (by decide) (by decide)
  have n4 : vp_in x3 2304 := iv_in i_x3 (by decide) (by decide)
  refine va_iald hx hb hK hP 1 0 rfl rfl n4 dX12_goesOn_12 ?_
  refine lv_topi (fun x5 ex5 => ?_)
  replace hR := uy_Ls ex5 hR
  exact hE _ _ _ ((uy_Q0 hR).symm.trans hRe) dX12_goesOn_13
abbrev rm_Model_forget : Room := { frames := 0, cells := 0, slots := 0, locals := 0 }
abbrev wgX12_forget : List Cond := .code yX12_forget cX12_forget 1 none :: gT12
set_option maxHeartbeats 4000000 in
set_option maxRecDepth 100000 in
theorem c_Model_forget (l : Launch) (D : va_G) (ct : Nat → ClassId) (q_this q_this_sorts q_this_ofWears q_this_ofSits q_this_values q_this_told q_this_jawTold q_this_browTold q_this_stoneTold q_this_orphan q_this_faceTold q_this_foreheadTold q_this_ageTold q_this_familyTold q_this_rains q_this_signsWears q_this_signsSits q_this_status q_this_tape q_this_jaw q_this_brow q_this_stone q_this_face q_this_forehead q_this_age q_this_family q_this_seat q_this_past q_this_asked q_this_stack q_this_rowThen q_this_leastBy q_this_seenWho q_this_seenIn q_this_seenJaw q_this_rowSeen q_this_fit q_this_seatThen q_this_gains q_this_imageRow q_this_pastThen q_this_seenWhoThen q_this_seenInThen q_this_seenJawThen q_this_statusThen : Nat) (sz : Nat) (x_this_code x_this_taped x_this_at x_this_size x_this_token x_this_number x_this_begins x_this_stops x_this_bad x_this_badPlace x_this_faultPlace x_this_ofSitting x_this_yearNow x_this_acts x_this_seen x_this_satDown x_this_fitMany x_this_seedNow x_this_hasImage x_this_actsThen x_this_seenThen : Int32) (i_x_this_taped : iv x_this_taped 0 700) (i_x_this_ofSitting : iv x_this_ofSitting 0 1) (i_x_this_yearNow : iv x_this_yearNow 0 5000) (i_x_this_acts : iv x_this_acts 0 40) (i_x_this_seen : iv x_this_seen 0 8) (i_x_this_fitMany : iv x_this_fitMany 0 800) (i_x_this_hasImage : iv x_this_hasImage 0 1) (i_x_this_actsThen : iv x_this_actsThen 0 40) (i_x_this_seenThen : iv x_this_seenThen 0 8) : cV l yX12_forget wgX12_forget rm_Model_forget D ct [(q_this, .inr (11, [.ref q_this_sorts, .ref q_this_ofWears, .ref q_this_ofSits, .ref q_this_values, .int x_this_code, .ref q_this_told, .ref q_this_jawTold, .ref q_this_browTold, .ref q_this_stoneTold, .ref q_this_orphan, .ref q_this_faceTold, .ref q_this_foreheadTold, .ref q_this_ageTold, .ref q_this_familyTold, .ref q_this_rains, .ref q_this_signsWears, .ref q_this_signsSits, .ref q_this_status, .ref q_this_tape, .int x_this_taped, .int x_this_at, .int x_this_size, .int x_this_token, .int x_this_number, .int x_this_begins, .int x_this_stops, .int x_this_bad, .int x_this_badPlace, .int x_this_faultPlace, .int x_this_ofSitting, .ref q_this_jaw, .ref q_this_brow, .ref q_this_stone, .ref q_this_face, .ref q_this_forehead, .ref q_this_age, .ref q_this_family, .ref q_this_seat, .ref q_this_past, .int x_this_yearNow, .int x_this_acts, .int x_this_seen, .ref q_this_asked, .ref q_this_stack, .int x_this_satDown, .ref q_this_rowThen, .ref q_this_leastBy, .ref q_this_seenWho, .ref q_this_seenIn, .ref q_this_seenJaw, .ref q_this_rowSeen, .ref q_this_fit, .ref q_this_seatThen, .int x_this_fitMany, .ref q_this_gains, .int x_this_seedNow, .int x_this_hasImage, .int x_this_actsThen, .int x_this_seenThen, .ref q_this_imageRow, .ref q_this_pastThen, .ref q_this_seenWhoThen, .ref q_this_seenInThen, .ref q_this_seenJawThen, .ref q_this_statusThen]))] sz [.ref q_this] (fun u : Int32 × Int32 => iv u.2 0 8 ∧ (u.1, u.2) = m_Model_forget) (fun u : Int32 × Int32 => [(q_this, .inr (11, [.ref q_this_sorts, .ref q_this_ofWears, .ref q_this_ofSits, .ref q_this_values, .int u.1, .ref q_this_told, .ref q_this_jawTold, .ref q_this_browTold, .ref q_this_stoneTold, .ref q_this_orphan, .ref q_this_faceTold, .ref q_this_foreheadTold, .ref q_this_ageTold, .ref q_this_familyTold, .ref q_this_rains, .ref q_this_signsWears, .ref q_this_signsSits, .ref q_this_status, .ref q_this_tape, .int x_this_taped, .int x_this_at, .int x_this_size, .int x_this_token, .int x_this_number, .int x_this_begins, .int x_this_stops, .int x_this_bad, .int x_this_badPlace, .int x_this_faultPlace, .int x_this_ofSitting, .ref q_this_jaw, .ref q_this_brow, .ref q_this_stone, .ref q_this_face, .ref q_this_forehead, .ref q_this_age, .ref q_this_family, .ref q_this_seat, .ref q_this_past, .int x_this_yearNow, .int x_this_acts, .int u.2, .ref q_this_asked, .ref q_this_stack, .int x_this_satDown, .ref q_this_rowThen, .ref q_this_leastBy, .ref q_this_seenWho, .ref q_this_seenIn, .ref q_this_seenJaw, .ref q_this_rowSeen, .ref q_this_fit, .ref q_this_seatThen, .int x_this_fitMany, .ref q_this_gains, .int x_this_seedNow, .int x_this_hasImage, .int x_this_actsThen, .int x_this_seenThen, .ref q_this_imageRow, .ref q_this_pastThen, .ref q_this_seenWhoThen, .ref q_this_seenInThen, .ref q_this_seenJawThen, .ref q_this_statusThen]))]) := by
  refine cV_of (cc := cX12_forget) (maxL := 1) (by decide) rfl (Nat.le_of_ble_eq_true rfl) ?_
  intro p e s m args below meth c Q A hx hb hml hts hown hK hP hD hA hAe hsz hname hE ls hl
  have hS : va_S A s.heap s.heap [] := va_S.rf
  have hP : va_P D vwCl [(q_this, .inr (11, [.ref q_this_sorts, .ref q_this_ofWears, .ref q_this_ofSits, .ref q_this_values, .int x_this_code, .ref q_this_told, .ref q_this_jawTold, .ref q_this_browTold, .ref q_this_stoneTold, .ref q_this_orphan, .ref q_this_faceTold, .ref q_this_foreheadTold, .ref q_this_ageTold, .ref q_this_familyTold, .ref q_this_rains, .ref q_this_signsWears, .ref q_this_signsSits, .ref q_this_status, .ref q_this_tape, .int x_this_taped, .int x_this_at, .int x_this_size, .int x_this_token, .int x_this_number, .int x_this_begins, .int x_this_stops, .int x_this_bad, .int x_this_badPlace, .int x_this_faultPlace, .int x_this_ofSitting, .ref q_this_jaw, .ref q_this_brow, .ref q_this_stone, .ref q_this_face, .ref q_this_forehead, .ref q_this_age, .ref q_this_family, .ref q_this_seat, .ref q_this_past, .int x_this_yearNow, .int x_this_acts, .int x_this_seen, .ref q_this_asked, .ref q_this_stack, .int x_this_satDown, .ref q_this_rowThen, .ref q_this_leastBy, .ref q_this_seenWho, .ref q_this_seenIn, .ref q_this_seenJaw, .ref q_this_rowSeen, .ref q_this_fit, .ref q_this_seatThen, .int x_this_fitMany, .ref q_this_gains, .int x_this_seedNow, .int x_this_hasImage, .int x_this_actsThen, .int x_this_seenThen, .ref q_this_imageRow, .ref q_this_pastThen, .ref q_this_seenWhoThen, .ref q_this_seenInThen, .ref q_this_seenJawThen, .ref q_this_statusThen]))] s.heap := hP
  have hD : va_D A [(q_this, .inr (11, [.ref q_this_sorts, .ref q_this_ofWears, .ref q_this_ofSits, .ref q_this_values, .int x_this_code, .ref q_this_told, .ref q_this_jawTold, .ref q_this_browTold, .ref q_this_stoneTold, .ref q_this_orphan, .ref q_this_faceTold, .ref q_this_foreheadTold, .ref q_this_ageTold, .ref q_this_familyTold, .ref q_this_rains, .ref q_this_signsWears, .ref q_this_signsSits, .ref q_this_status, .ref q_this_tape, .int x_this_taped, .int x_this_at, .int x_this_size, .int x_this_token, .int x_this_number, .int x_this_begins, .int x_this_stops, .int x_this_bad, .int x_this_badPlace, .int x_this_faultPlace, .int x_this_ofSitting, .ref q_this_jaw, .ref q_this_brow, .ref q_this_stone, .ref q_this_face, .ref q_this_forehead, .ref q_this_age, .ref q_this_family, .ref q_this_seat, .ref q_this_past, .int x_this_yearNow, .int x_this_acts, .int x_this_seen, .ref q_this_asked, .ref q_this_stack, .int x_this_satDown, .ref q_this_rowThen, .ref q_this_leastBy, .ref q_this_seenWho, .ref q_this_seenIn, .ref q_this_seenJaw, .ref q_this_rowSeen, .ref q_this_fit, .ref q_this_seatThen, .int x_this_fitMany, .ref q_this_gains, .int x_this_seedNow, .int x_this_hasImage, .int x_this_actsThen, .int x_this_seenThen, .ref q_this_imageRow, .ref q_this_pastThen, .ref q_this_seenWhoThen, .ref q_this_seenInThen, .ref q_this_seenJawThen, .ref q_this_statusThen]))] := hD
  have mG : ∀ (i : Nat) {w : Cond}, gT12[i]? = some w → w ∈ wgX12_forget := fun i w h => List.mem_cons_of_mem _ (List.mem_of_getElem? h)
  have hl : lv_has ls 1 [(0, .ref q_this)] := hl
  obtain ⟨R, hRe⟩ : ∃ R : (Int32 × Int32), R = m_Model_forget := ⟨_, rfl⟩
  have hR : uy_Q R (fun z : (Int32 × Int32) => z) (m_Model_forget) := hRe
  have hin_Model : ∀ w ∈ u_ws RX12 TX12 65, w ∈ wgX12_forget := fun w h => List.mem_cons_of_mem _ (ingT12_X12 w h)
  delta m_Model_forget at hR
  refine lv_aload_n hx hb dX12_forget_0 rfl (lv_at hl 0 rfl) ?_
  refine lv_iconst (v := 0) hx hb dX12_forget_1 (by decide) ?_
  refine va_put (D := D) (ci := 11) (v := .int (0 : Int32)) (ty := .int) (C := RX12) (T := TX12) (N := 65) hx hb hts hin_Model tyX12 tyX12_ok nmX12 hown hK hP hD hS 0 rfl rfl 4 (by decide) (hts (.fieldLink RX12 163 "GutterSeatsModel" "code" "I") (List.mem_cons_of_mem _ (gm12 0 52 (by first | rfl | decide +kernel)))) (fun _ h9 => h9) rfl (by first | exact tyX12_ok 4 (by decide) | decide +kernel) rfl rfl (Nat.le_of_ble_eq_true rfl) dX12_forget_2 (fun H locs hP hD hS => ?_)
  have hP : va_P D vwCl [(q_this, .inr (11, [.ref q_this_sorts, .ref q_this_ofWears, .ref q_this_ofSits, .ref q_this_values, .int (0 : Int32), .ref q_this_told, .ref q_this_jawTold, .ref q_this_browTold, .ref q_this_stoneTold, .ref q_this_orphan, .ref q_this_faceTold, .ref q_this_foreheadTold, .ref q_this_ageTold, .ref q_this_familyTold, .ref q_this_rains, .ref q_this_signsWears, .ref q_this_signsSits, .ref q_this_status, .ref q_this_tape, .int x_this_taped, .int x_this_at, .int x_this_size, .int x_this_token, .int x_this_number, .int x_this_begins, .int x_this_stops, .int x_this_bad, .int x_this_badPlace, .int x_this_faultPlace, .int x_this_ofSitting, .ref q_this_jaw, .ref q_this_brow, .ref q_this_stone, .ref q_this_face, .ref q_this_forehead, .ref q_this_age, .ref q_this_family, .ref q_this_seat, .ref q_this_past, .int x_this_yearNow, .int x_this_acts, .int x_this_seen, .ref q_this_asked, .ref q_this_stack, .int x_this_satDown, .ref q_this_rowThen, .ref q_this_leastBy, .ref q_this_seenWho, .ref q_this_seenIn, .ref q_this_seenJaw, .ref q_this_rowSeen, .ref q_this_fit, .ref q_this_seatThen, .int x_this_fitMany, .ref q_this_gains, .int x_this_seedNow, .int x_this_hasImage, .int x_this_actsThen, .int x_this_seenThen, .ref q_this_imageRow, .ref q_this_pastThen, .ref q_this_seenWhoThen, .ref q_this_seenInThen, .ref q_this_seenJawThen, .ref q_this_statusThen]))] H := hP
  have hD : va_D A [(q_this, .inr (11, [.ref q_this_sorts, .ref q_this_ofWears, .ref q_this_ofSits, .ref q_this_values, .int (0 : Int32), .ref q_this_told, .ref q_this_jawTold, .ref q_this_browTold, .ref q_this_stoneTold, .ref q_this_orphan, .ref q_this_faceTold, .ref q_this_foreheadTold, .ref q_this_ageTold, .ref q_this_familyTold, .ref q_this_rains, .ref q_this_signsWears, .ref q_this_signsSits, .ref q_this_status, .ref q_this_tape, .int x_this_taped, .int x_this_at, .int x_this_size, .int x_this_token, .int x_this_number, .int x_this_begins, .int x_this_stops, .int x_this_bad, .int x_this_badPlace, .int x_this_faultPlace, .int x_this_ofSitting, .ref q_this_jaw, .ref q_this_brow, .ref q_this_stone, .ref q_this_face, .ref q_this_forehead, .ref q_this_age, .ref q_this_family, .ref q_this_seat, .ref q_this_past, .int x_this_yearNow, .int x_this_acts, .int x_this_seen, .ref q_this_asked, .ref q_this_stack, .int x_this_satDown, .ref q_this_rowThen, .ref q_this_leastBy, .ref q_this_seenWho, .ref q_this_seenIn, .ref q_this_seenJaw, .ref q_this_rowSeen, .ref q_this_fit, .ref q_this_seatThen, .int x_this_fitMany, .ref q_this_gains, .int x_this_seedNow, .int x_this_hasImage, .int x_this_actsThen, .int x_this_seenThen, .ref q_this_imageRow, .ref q_this_pastThen, .ref q_this_seenWhoThen, .ref q_this_seenInThen, .ref q_this_seenJawThen, .ref q_this_statusThen]))] := hD
  refine lv_aload_n hx hb dX12_forget_5 rfl (lv_at hl 0 rfl) ?_
  refine lv_iconst (v := 0) hx hb dX12_forget_6 (by decide) ?_
  refine va_put (D := D) (ci := 11) (v := .int (0 : Int32)) (ty := .int) (C := RX12) (T := TX12) (N := 65) hx hb hts hin_Model tyX12 tyX12_ok nmX12 hown hK hP hD hS 0 rfl rfl 41 (by decide) (hts (.fieldLink RX12 329 "GutterSeatsModel" "seen" "I") (List.mem_cons_of_mem _ (gm12 3 45 (by first | rfl | decide +kernel)))) (fun _ h9 => h9) rfl (by first | exact tyX12_ok 41 (by decide) | decide +kernel) rfl rfl (Nat.le_of_ble_eq_true rfl) dX12_forget_7 (fun H locs hP hD hS => ?_)
  have hP : va_P D vwCl [(q_this, .inr (11, [.ref q_this_sorts, .ref q_this_ofWears, .ref q_this_ofSits, .ref q_this_values, .int (0 : Int32), .ref q_this_told, .ref q_this_jawTold, .ref q_this_browTold, .ref q_this_stoneTold, .ref q_this_orphan, .ref q_this_faceTold, .ref q_this_foreheadTold, .ref q_this_ageTold, .ref q_this_familyTold, .ref q_this_rains, .ref q_this_signsWears, .ref q_this_signsSits, .ref q_this_status, .ref q_this_tape, .int x_this_taped, .int x_this_at, .int x_this_size, .int x_this_token, .int x_this_number, .int x_this_begins, .int x_this_stops, .int x_this_bad, .int x_this_badPlace, .int x_this_faultPlace, .int x_this_ofSitting, .ref q_this_jaw, .ref q_this_brow, .ref q_this_stone, .ref q_this_face, .ref q_this_forehead, .ref q_this_age, .ref q_this_family, .ref q_this_seat, .ref q_this_past, .int x_this_yearNow, .int x_this_acts, .int (0 : Int32), .ref q_this_asked, .ref q_this_stack, .int x_this_satDown, .ref q_this_rowThen, .ref q_this_leastBy, .ref q_this_seenWho, .ref q_this_seenIn, .ref q_this_seenJaw, .ref q_this_rowSeen, .ref q_this_fit, .ref q_this_seatThen, .int x_this_fitMany, .ref q_this_gains, .int x_this_seedNow, .int x_this_hasImage, .int x_this_actsThen, .int x_this_seenThen, .ref q_this_imageRow, .ref q_this_pastThen, .ref q_this_seenWhoThen, .ref q_this_seenInThen, .ref q_this_seenJawThen, .ref q_this_statusThen]))] H := hP
  have hD : va_D A [(q_this, .inr (11, [.ref q_this_sorts, .ref q_this_ofWears, .ref q_this_ofSits, .ref q_this_values, .int (0 : Int32), .ref q_this_told, .ref q_this_jawTold, .ref q_this_browTold, .ref q_this_stoneTold, .ref q_this_orphan, .ref q_this_faceTold, .ref q_this_foreheadTold, .ref q_this_ageTold, .ref q_this_familyTold, .ref q_this_rains, .ref q_this_signsWears, .ref q_this_signsSits, .ref q_this_status, .ref q_this_tape, .int x_this_taped, .int x_this_at, .int x_this_size, .int x_this_token, .int x_this_number, .int x_this_begins, .int x_this_stops, .int x_this_bad, .int x_this_badPlace, .int x_this_faultPlace, .int x_this_ofSitting, .ref q_this_jaw, .ref q_this_brow, .ref q_this_stone, .ref q_this_face, .ref q_this_forehead, .ref q_this_age, .ref q_this_family, .ref q_this_seat, .ref q_this_past, .int x_this_yearNow, .int x_this_acts, .int (0 : Int32), .ref q_this_asked, .ref q_this_stack, .int x_this_satDown, .ref q_this_rowThen, .ref q_this_leastBy, .ref q_this_seenWho, .ref q_this_seenIn, .ref q_this_seenJaw, .ref q_this_rowSeen, .ref q_this_fit, .ref q_this_seatThen, .int x_this_fitMany, .ref q_this_gains, .int x_this_seedNow, .int x_this_hasImage, .int x_this_actsThen, .int x_this_seenThen, .ref q_this_imageRow, .ref q_this_pastThen, .ref q_this_seenWhoThen, .ref q_this_seenInThen, .ref q_this_seenJawThen, .ref q_this_statusThen]))] := hD
  exact hE ((0 : Int32), (0 : Int32)) _ _ _ _ ⟨(iv_lit (0 : Int32) (by decide) : iv (0 : Int32) 0 8), ((uy_Q0 hR).symm.trans hRe)⟩ hP hD hS dX12_forget_10
