/-! years -/
/-- a state of the class and one of the reference, alike and as they may be -/
def sq_A (n m : Nat) (G P : Int32) (jw br st ag fm se tl jaw brow stn fc fh ag' fm' se' : Nat → Int32) : Prop := tl 0 = G ∧ tl 1 = P ∧ G.toInt = (n : Int) ∧ P.toInt = (m : Int) ∧ n ≤ 8 ∧ m ≤ 8 ∧ sq_G G jw br st jaw brow stn ∧ sq_P P jw br ag fm se fc fh ag' fm' se' ∧ wg n jaw brow stn ∧ wp m n fc fh ag' fm' ∧ ws m n se'
/-- both plans -/
def sq_L (m : Nat) (ob ce wl sl : Int32) (wit sit tl orp sgW sgS : Nat → Int32) : Prop := tl 3 = ce ∧ tl 4 = wl ∧ tl 5 = sl ∧ bs ob (fun z => z < m ∧ orp z = 1) ∧ 0 ≤ wl.toInt ∧ (∀ k : Nat, (k : Int) < wl.toInt → cen 4 id (wit k) (sgW k)) ∧ wf sgW wl ∧ (wl ≠ 0 → dep sgW wl.toInt.toNat = 1) ∧ 0 ≤ sl.toInt ∧ (∀ k : Nat, (k : Int) < sl.toInt → cen 5 vmS (sit k) (sgS k)) ∧ wf sgS sl ∧ (sl ≠ 0 → dep sgS sl.toInt.toNat = 1)
/-- and the rain -/
def sq_R (rs : Int32) (rain tl rains : Nat → Int32) : Prop := tl 2 = rs ∧ iv rs 0 8 ∧ ∀ k : Nat, (k : Int) < rs.toInt → rain k = rains k
section UXY9
variable {G P sd dc yr rn ob ce wl sl rs N : Int32} {tl orp sgW sgS wit sit rain rains jw br st ag fm se V W jaw brow stn fc fh ag' fm' se' A S : Nat → Int32} {n m : Nat}
theorem q_tak2 (h : sq_A n m G P jw br st ag fm se tl jaw brow stn fc fh ag' fm' se') : bs (m_State_takenBits P se) (tkn se' m) := by
  obtain ⟨hG, hP, hn, hm, hn8, hm8, hs, hp, hg, hw, hsw⟩ := h
  have e : P.toInt.toNat = m := by omega
  have q := q_tak (P := P) (se := se) (by omega) (by omega) (fun k hk => by
    rw [(hp k hk).2.2.2.2]; exact iv_w (hsw.1 k (by omega)) (by omega) (by omega))
  rw [e] at q
  refine bs_w q (fun g hg => ⟨?_, ?_⟩)
  · rintro ⟨j, hj, hv⟩; exact ⟨j, hj, by rw [(hp j (by omega)).2.2.2.2]; exact hv⟩
  · rintro ⟨j, hj, hv⟩; exact ⟨j, hj, by rw [← (hp j (by omega)).2.2.2.2]; exact hv⟩
theorem q_year (h : sq_A n m G P jw br st ag fm se tl jaw brow stn fc fh ag' fm' se') (hl : sq_L m ob ce wl sl wit sit tl orp sgW sgS) :
    ∃ (jw1 br1 st1 ag1 se1 V1 W1 A1 S1 stn1 jaw1 brow1 age1 fc1 fh1 se1' : Nat → Int32) (sd1 : Int32), m_Walk_passYear sd G P yr jw br st ag fm se ob ce wl wit sl sit V W rn = (jw1, br1, st1, ag1, se1, V1, W1, sd1, yr + 1) ∧ m_Model_aYearOf yr (sd + dc) tl orp sgW sgS jaw brow stn fc fh ag' fm' se' A S rn = (A1, S1, stn1, jaw1, brow1, age1, fc1, fh1, se1', sd1 + dc, yr + 1) ∧ sq_A n m G P jw1 br1 st1 ag1 fm se1 tl jaw1 brow1 stn1 fc1 fh1 age1 fm' se1' := by
  have hb := q_tak2 h
  obtain ⟨hG, hP, hn, hm, hn8, hm8, hs, hp, hg, hw, hsw⟩ := h
  obtain ⟨l3, l4, l5, lo, lw0, lwC, lwW, lwd, ls0, lsC, lsW, lsd⟩ := hl
  have e : P.toInt.toNat = m := by omega
  obtain ⟨jw1, br1, st1, V1, W1, A1, S1, stn1, jaw1, brow1, a1, a2, a3, a4, a5, a6, a7⟩ := q_wea (jw0 := jw) (br0 := br) (st0 := st) (se0 := se) (V0 := upd (upd V 3 yr) 0 rn) (W0 := W) (V := upd (upd V 3 yr) 0 rn) (W := W) (yr := yr) (rn := rn) (sd := sd + dc) (A := A) (S := S) (ag' := ag') (fc := fc) (fh := fh) (yr0 := yr) (sd0 := sd + dc) (orp := orp) (sgS := sgS) (jaw0 := jaw) (brow0 := brow) (stn0 := stn) (fc0 := fc) (fh0 := fh) (ag0 := ag') (fm' := fm') (se0' := se') (A0 := A) (S0 := S) hG hP l4 hn hn8 (by omega) (by rw [e]; exact hb) hs hg lw0 lwC lwW lwd rfl rfl
  have hp1 : sq_P P jw1 br1 ag fm se fc fh ag' fm' se' := fun z hz => by
    rw [(a4 (8 + z) (by omega)).1, (a4 (8 + z) (by omega)).2]; exact hp z hz
  obtain ⟨jw2, br2, ag2, age2, fc2, fh2, b1, b2, b3, b4, b5⟩ := q_gro (jw0 := jw1) (br0 := br1) (aq0 := ag) (sd := sd + dc) (yr := yr) (A := A1) (S := S1) (yr0 := yr) (sd0 := sd + dc) (sgW := sgW) (sgS := sgS) (jaw0 := jaw) (brow0 := brow) (stn0 := stn) (fc0 := fc) (fh0 := fh) (ag0 := ag') (se0' := se') (A0 := A) (S0 := S) (rn := rn) hP l3 hm hm8 hn hn8 a3 hp1 lo a7 hw
  obtain ⟨sd3, se3, V3, W3, A3, S3, se3', c1, c2, c3, c4⟩ := q_sea (sq0 := sd) (se0 := se) (V0 := V1) (W0 := W1) (V := V1) (W := W1) (sd := sd) (dc := dc) (yr := yr) (A := A1) (S := S1) (yr0 := yr) (sd0 := sd + dc) (orp := orp) (sgW := sgW) (jaw0 := jaw) (brow0 := brow) (stn0 := stn) (fc0 := fc) (fh0 := fh) (ag0 := ag') (se0' := se') (A0 := A) (S0 := S) (rn := rn) hG hP l5 hm hm8 hn hn8 b3 b4 hb hsw ls0 lsC lsW lsd a5
  refine ⟨jw2, br2, st1, ag2, se3, V3, W3, A3, S3, stn1, jaw1, brow1, age2, fc2, fh2, se3', sd3, ?_, ?_, hG, hP, hn, hm, hn8, hm8, b3, c3, a7, b5, c4⟩
  · have E : m_Walk_passYear sd G P yr jw br st ag fm se ob ce wl wit sl sit V W rn = uy_C5 (m_Walk_wearAll_k10 G P jw br st se wl wit (upd (upd V 3 yr) 0 rn) W rn (m_State_takenBits P se, 0, jw, br, st, upd (upd V 3 yr) 0 rn, W)) (fun f7 f8 f9 f10 f11 => uy_C3 (m_Walk_growAll_k2 P f7 f8 ag fm ob ce (0, f7, f8, ag)) (fun f15 f16 f17 => uy_C4 (m_Walk_seatAll_k10 sd G P f15 f16 f9 f17 fm se sl sit f10 f11 (sd, m_State_takenBits P se, 0, se, f10, f11)) (fun f21 f22 f23 x24 => (f15, f16, f9, f17, f21, f22, f23, x24, yr + 1)))) := rfl
    rw [E, a1]
    dsimp only [uy_C5]
    rw [b1]
    dsimp only [uy_C3]
    rw [c1]; rfl
  · have E : m_Model_aYearOf yr (sd + dc) tl orp sgW sgS jaw brow stn fc fh ag' fm' se' A S rn = m_Model_aYearOf_k2 yr (sd + dc) tl orp sgW sgS jaw brow stn fc fh ag' fm' se' A S rn (sd + dc, yr, 0, A, S, stn, jaw, brow, ag', fc, fh, se') := rfl
    rw [E, a2, b2, c2]
theorem q_rai (hr : sq_R rs rain tl rains) (hy : iv yr 0 5000) : m_Plan_rainOf rs rain yr = m_Model_rainOf tl rains yr := by
  obtain ⟨h2, hb, hq⟩ := hr
  have E1 : m_Plan_rainOf rs rain yr = (if rs = 0 then 3 else rain (yr - yr / rs * rs).toNatClampNeg) := rfl
  have E2 : m_Model_rainOf tl rains yr = (if rs = 0 then 3 else rains (yr - yr / rs * rs).toNatClampNeg) := by rw [← h2]; rfl
  rw [E1, E2]
  by_cases h : rs = 0
  · rw [if_pos h, if_pos h]
  · rw [if_neg h, if_neg h]
    have hn : rs.toInt ≠ (0 : Int32).toInt := fun w => h (Int32.toInt_inj.mp w)
    have e0 : (0 : Int32).toInt = 0 := rfl
    have b1 := hb.1; have b2 := hb.2; have y1 := hy.1; have y2 := hy.2
    obtain ⟨a, ha⟩ : ∃ a : Nat, rs.toInt = (a : Int) := ⟨rs.toInt.toNat, by omega⟩
    obtain ⟨b, hb'⟩ : ∃ b : Nat, yr.toInt = (b : Int) := ⟨yr.toInt.toNat, by omega⟩
    have m1 : b % a < a := Nat.mod_lt _ (by omega)
    rw [ct_I ha (by omega), ct_I hb' (by omega), pk_rem (by omega) (by omega) (by omega), nI_cl (by omega)]
    exact hq _ (by omega)
theorem q_yrs {k : Nat} (h : sq_A n m G P jw br st ag fm se tl jaw brow stn fc fh ag' fm' se') (hl : sq_L m ob ce wl sl wit sit tl orp sgW sgS) (hr : sq_R rs rain tl rains) (hy : 0 ≤ yr.toInt) (hN : N.toInt = (k : Int)) (hb : yr.toInt + N.toInt ≤ 5000) :
    ∃ (jw1 br1 st1 ag1 se1 V1 W1 A1 S1 stn1 jaw1 brow1 age1 fc1 fh1 se1' : Nat → Int32) (sd1 yr1 : Int32), m_Walk_passYears sd G P yr jw br st ag fm se ob rs ce rain wl wit sl sit V W N = (jw1, br1, st1, ag1, se1, V1, W1, sd1, yr1) ∧ m_Model_goOn yr (sd + dc) tl orp rains sgW sgS jaw brow stn fc fh ag' fm' se' A S N = (A1, S1, stn1, jaw1, brow1, age1, fc1, fh1, se1', sd1 + dc, yr1) ∧ sq_A n m G P jw1 br1 st1 ag1 fm se1 tl jaw1 brow1 stn1 fc1 fh1 age1 fm' se1' ∧ yr1.toInt = yr.toInt + k := by
  have Z := uy_sim (d := (fun _ => 0, fun _ => 0, fun _ => 0, fun _ => 0, fun _ => 0, fun _ => 0, fun _ => 0, 0, 0)) (d' := (fun _ => 0, fun _ => 0, fun _ => 0, fun _ => 0, fun _ => 0, fun _ => 0, fun _ => 0, fun _ => 0, fun _ => 0, 0, 0)) (F := fun v : (Int32 × Int32 × Int32 × (Nat → Int32) × (Nat → Int32) × (Nat → Int32) × (Nat → Int32) × (Nat → Int32) × (Nat → Int32) × (Nat → Int32)) => m_Walk_passYears_b2 sd G P yr jw br st ag fm se ob rs ce rain wl wit sl sit V W N v.1 v.2.1 v.2.2.1 v.2.2.2.1 v.2.2.2.2.1 v.2.2.2.2.2.1 v.2.2.2.2.2.2.1 v.2.2.2.2.2.2.2.1 v.2.2.2.2.2.2.2.2.1 v.2.2.2.2.2.2.2.2.2) (G := fun v : (Int32 × Int32 × Int32 × (Nat → Int32) × (Nat → Int32) × (Nat → Int32) × (Nat → Int32) × (Nat → Int32) × (Nat → Int32) × (Nat → Int32) × (Nat → Int32) × (Nat → Int32)) => m_Model_goOn_b2 yr (sd + dc) tl orp rains sgW sgS jaw brow stn fc fh ag' fm' se' A S N v.1 v.2.1 v.2.2.1 v.2.2.2.1 v.2.2.2.2.1 v.2.2.2.2.2.1 v.2.2.2.2.2.2.1 v.2.2.2.2.2.2.2.1 v.2.2.2.2.2.2.2.2.1 v.2.2.2.2.2.2.2.2.2.1 v.2.2.2.2.2.2.2.2.2.2.1 v.2.2.2.2.2.2.2.2.2.2.2) k
    (fun z a a' => ∃ (i sd1 yr1 : Int32) (jw1 br1 st1 ag1 se1 V1 W1 A1 S1 stn1 jaw1 brow1 age1 fc1 fh1 se1' : Nat → Int32), a = (sd1, yr1, i, jw1, br1, st1, ag1, se1, V1, W1) ∧ a' = (sd1 + dc, yr1, i, A1, S1, stn1, jaw1, brow1, age1, fc1, fh1, se1') ∧ i.toInt = (z : Int) ∧ yr1.toInt = yr.toInt + z ∧ sq_A n m G P jw1 br1 st1 ag1 fm se1 tl jaw1 brow1 stn1 fc1 fh1 age1 fm' se1')
    (fun r o => ∃ (jw1 br1 st1 ag1 se1 V1 W1 A1 S1 stn1 jaw1 brow1 age1 fc1 fh1 se1' : Nat → Int32) (sd1 yr1 : Int32), r = (jw1, br1, st1, ag1, se1, V1, W1, sd1, yr1) ∧ o = (A1, S1, stn1, jaw1, brow1, age1, fc1, fh1, se1', sd1 + dc, yr1) ∧ sq_A n m G P jw1 br1 st1 ag1 fm se1 tl jaw1 brow1 stn1 fc1 fh1 age1 fm' se1' ∧ yr1.toInt = yr.toInt + k) ?_
    (a := (sd, yr, 0, jw, br, st, ag, se, V, W)) (a' := (sd + dc, yr, 0, A, S, stn, jaw, brow, ag', fc, fh, se')) ⟨0, sd, yr, jw, br, st, ag, se, V, W, A, S, stn, jaw, brow, ag', fc, fh, se', rfl, rfl, rfl, by omega, h⟩
  · exact Z
  · rintro z _ _ hz ⟨i, sd1, yr1, jw1, br1, st1, ag1, se1, V1, W1, A1, S1, stn1, jaw1, brow1, age1, fc1, fh1, se1', rfl, rfl, hi, hy1, h1⟩
    have E1 : m_Walk_passYears_b2 sd G P yr jw br st ag fm se ob rs ce rain wl wit sl sit V W N sd1 yr1 i jw1 br1 st1 ag1 se1 V1 W1 = (if N ≤ i then .inr (jw1, br1, st1, ag1, se1, V1, W1, sd1, yr1) else uy_C9 (m_Walk_passYear sd1 G P yr1 jw1 br1 st1 ag1 fm se1 ob ce wl wit sl sit V1 W1 (m_Plan_rainOf rs rain yr1)) (fun f8 f9 f10 f11 f12 f13 f14 x15 x16 => .inl (x15, x16, i + 1, f8, f9, f10, f11, f12, f13, f14))) := rfl
    have E2 : m_Model_goOn_b2 yr (sd + dc) tl orp rains sgW sgS jaw brow stn fc fh ag' fm' se' A S N (sd1 + dc) yr1 i A1 S1 stn1 jaw1 brow1 age1 fc1 fh1 se1' = (if N ≤ i then .inr (A1, S1, stn1, jaw1, brow1, age1, fc1, fh1, se1', sd1 + dc, yr1) else uy_C11 (m_Model_aYearOf yr1 (sd1 + dc) tl orp sgW sgS jaw1 brow1 stn1 fc1 fh1 age1 fm' se1' A1 S1 (m_Model_rainOf tl rains yr1)) (fun f1 f2 f3 f4 f5 f6 f7 f8 f9 x1 x2 => .inl (x1, x2, i + 1, f1, f2, f3, f4, f5, f6, f7, f8, f9))) := rfl
    by_cases hN1 : N ≤ i
    · have := ct_ge hN1 hi
      have ez : z = k := by omega
      exact Or.inr ⟨_, _, E1.trans (if_pos hN1), E2.trans (if_pos hN1), jw1, br1, st1, ag1, se1, V1, W1, A1, S1, stn1, jaw1, brow1, age1, fc1, fh1, se1', sd1, yr1, rfl, rfl, h1, by rw [hy1, ez]⟩
    · have hlt := ct_lt hN1 hi
      have e1 : (1 : Int32).toInt = 1 := rfl
      rw [q_rai hr ⟨by omega, by omega⟩] at E1
      obtain ⟨jw2, br2, st2, ag2, se2, V2, W2, A2, S2, stn2, jaw2, brow2, age2, fc2, fh2, se2', sd2, a1, a2, a3⟩ := q_year (sd := sd1) (dc := dc) (yr := yr1) (rn := m_Model_rainOf tl rains yr1) (V := V1) (W := W1) (A := A1) (S := S1) h1 hl
      rw [a1] at E1
      rw [a2] at E2
      exact Or.inl ⟨by omega, _, _, E1.trans (if_neg hN1), E2.trans (if_neg hN1), i + 1, sd2, yr1 + 1, jw2, br2, st2, ag2, se2, V2, W2, A2, S2, stn2, jaw2, brow2, age2, fc2, fh2, se2', rfl, rfl, ct_s hi (by omega), by rw [iv_tadd (by omega) (by omega), e1]; omega, a3⟩
end UXY9
