/-! acts that are kept: both rows of them alike -/
def sqr (n m : Nat) (G P : Int32) (rows past tl : Nat → Int32) (b : Nat) : Prop := ∃ (jw br st ag fm se jaw brow stn fc fh ag' fm' se' : Nat → Int32) (yr : Int32), rwG rows b yr jw br st ag fm se ∧ rwM past b yr jaw brow stn fc fh ag' fm' se' ∧ sq_A n m G P jw br st ag fm se tl jaw brow stn fc fh ag' fm' se' ∧ iv yr 0 999
def sqK (n m : Nat) (G P : Int32) (tl rows past : Nat → Int32) (ac : Int32) : Prop := iv ac 0 40 ∧ ∀ a : Nat, (a : Int) < ac.toInt → sqr n m G P rows past tl (65 * a)
section UXP12
variable {n m b : Nat} {G P yr ac ac2 : Int32} {rows past rows2 past2 tl jw br st ag fm se jaw brow stn fc fh ag' fm' se' jw2 br2 st2 ag2 fm2 se2 jaw2 brow2 stn2 fc2 fh2 ag2' fm2' se2' : Nat → Int32}
theorem rwG_c (h : rwG rows b yr jw br st ag fm se) (e : ∀ j : Nat, b ≤ j → j < b + 65 → rows2 j = rows j) : rwG rows2 b yr jw br st ag fm se := by
  obtain ⟨h1, h2, h3⟩ := h
  refine ⟨fun k hk => ?_, fun k hk => ?_, ?_⟩
  · rw [e _ (by omega) (by omega), e _ (by omega) (by omega)]; exact h1 k hk
  · rw [e _ (by omega) (by omega), e _ (by omega) (by omega), e _ (by omega) (by omega), e _ (by omega) (by omega)]; exact h2 k hk
  · rw [e _ (by omega) (by omega)]; exact h3
theorem rwM_c (h : rwM past b yr jaw brow stn fc fh ag fm se) (e : ∀ j : Nat, b ≤ j → j < b + 65 → past2 j = past j) : rwM past2 b yr jaw brow stn fc fh ag fm se := by
  obtain ⟨h1, h2, h3⟩ := h
  refine ⟨?_, fun k hk => ?_, fun k hk => ?_⟩
  · rw [e _ (by omega) (by omega)]; exact h1
  · rw [e _ (by omega) (by omega), e _ (by omega) (by omega), e _ (by omega) (by omega)]; exact h2 k hk
  · rw [e _ (by omega) (by omega), e _ (by omega) (by omega), e _ (by omega) (by omega), e _ (by omega) (by omega), e _ (by omega) (by omega)]; exact h3 k hk
theorem sqr_c (h : sqr n m G P rows past tl b) (e : ∀ j : Nat, b ≤ j → j < b + 65 → rows2 j = rows j) (e2 : ∀ j : Nat, b ≤ j → j < b + 65 → past2 j = past j) : sqr n m G P rows2 past2 tl b := by
  obtain ⟨a1, a2, a3, a4, a5, a6, c1, c2, c3, c4, c5, c6, c7, c8, y, h1, h2, h3, h4⟩ := h
  exact ⟨a1, a2, a3, a4, a5, a6, c1, c2, c3, c4, c5, c6, c7, c8, y, rwG_c h1 e, rwM_c h2 e2, h3, h4⟩
/-- a row that is laid anew elsewhere -/
theorem rwG_s {b2 : Nat} (h : rwG rows b yr jw br st ag fm se) (e : ∀ j : Nat, j < 65 → rows2 (b2 + j) = rows (b + j)) : rwG rows2 b2 yr jw br st ag fm se := by
  obtain ⟨h1, h2, h3⟩ := h
  refine ⟨fun k hk => ?_, fun k hk => ?_, ?_⟩
  · rw [e _ (by omega), Nat.add_assoc, e _ (by omega), ← Nat.add_assoc]; exact h1 k hk
  · rw [Nat.add_assoc, e _ (by omega), Nat.add_assoc, e _ (by omega), Nat.add_assoc, e _ (by omega), Nat.add_assoc, e _ (by omega), ← Nat.add_assoc, ← Nat.add_assoc, ← Nat.add_assoc, ← Nat.add_assoc]; exact h2 k hk
  · rw [e _ (by omega)]; exact h3
theorem rwM_s {b2 : Nat} (h : rwM past b yr jaw brow stn fc fh ag fm se) (e : ∀ j : Nat, j < 65 → past2 (b2 + j) = past (b + j)) : rwM past2 b2 yr jaw brow stn fc fh ag fm se := by
  obtain ⟨h1, h2, h3⟩ := h
  have e' : ∀ x y : Nat, x + y < 65 → past2 (b2 + x + y) = past (b + x + y) := fun x y hxy => by rw [Nat.add_assoc, e _ hxy, Nat.add_assoc]
  refine ⟨?_, fun k hk => ?_, fun k hk => ?_⟩
  · have := e 0 (by omega); rw [Nat.add_zero, Nat.add_zero] at this; rw [this]; exact h1
  · rw [e' _ _ (by omega), e' _ _ (by omega), e' _ _ (by omega)]; exact h2 k hk
  · rw [e' _ _ (by omega), e' _ _ (by omega), e' _ _ (by omega), e' _ _ (by omega), e' _ _ (by omega)]; exact h3 k hk
/-- the past, moved on by one row -/
theorem q_kpL (h40 : ac.toInt = 40) : ∃ past2 : Nat → Int32, m_Model_keep_k12 yr ac jaw brow stn fc fh ag' fm' se' past (ac, 65, past) = (m_Model_packP yr jaw brow stn fc fh ag' fm' se' past2 ((65 : Int32) * (ac - 1)), (ac - 1) + 1) ∧ ∀ j : Nat, j < 2535 → past2 j = past (j + 65) := by
  unfold m_Model_keep_k12
  refine uy_inv (α := Int32 × Int32 × (Nat → Int32)) 2535 (fun k a => a.1 = ac ∧ a.2.1.toInt = ((65 + k : Nat) : Int) ∧ (∀ j : Nat, j < k → a.2.2 j = past (j + 65)) ∧ ∀ j : Nat, k ≤ j → a.2.2 j = past j) (fun R => ∃ past2 : Nat → Int32, R = (m_Model_packP yr jaw brow stn fc fh ag' fm' se' past2 ((65 : Int32) * (ac - 1)), (ac - 1) + 1) ∧ ∀ j : Nat, j < 2535 → past2 j = past (j + 65)) ?_ ⟨rfl, rfl, fun j hj => absurd hj (Nat.not_lt_zero j), fun _ _ => rfl⟩
  rintro k ⟨a, i, g⟩ hk ⟨ha, hi, h1, h2⟩
  have h1 : ∀ j : Nat, j < k → g j = past (j + 65) := h1
  have h2 : ∀ j : Nat, k ≤ j → g j = past j := h2
  have ha : a = ac := ha
  subst ha
  have hi : i.toInt = ((65 + k : Nat) : Int) := hi
  have E : m_Model_keep_b12 yr a jaw brow stn fc fh ag' fm' se' past a i g = (if (2600 : Int32) ≤ i then .inr (m_Model_packP yr jaw brow stn fc fh ag' fm' se' g ((65 : Int32) * (a - 1)), (a - 1) + 1) else .inl (a, i + 1, upd g (i - 65).toNatClampNeg (g i.toNatClampNeg))) := rfl
  have e8 : (2600 : Int32).toInt = 2600 := rfl
  have e65 : (65 : Int32).toInt = 65 := rfl
  by_cases h : (2600 : Int32) ≤ i
  · have := ct_ge h hi
    exact Or.inr ⟨_, E.trans (if_pos h), g, rfl, fun j hj => h1 j (by omega)⟩
  · have hl := ct_lt h hi
    have c0 : i.toNatClampNeg = 65 + k := ct_n hi
    have c1 : (i - 65).toNatClampNeg = k := by
      show (i - 65).toInt.toNat = k
      rw [iv_tsub (by omega) (by omega)]; omega
    rw [c0, c1] at E
    refine Or.inl ⟨by omega, _, E.trans (if_neg h), rfl, ?_, fun j hj => ?_, fun j hj => ?_⟩
    · show (i + 1).toInt = _
      have e1 : (1 : Int32).toInt = 1 := rfl
      rw [iv_tadd (by omega) (by omega)]; omega
    · show upd g k (g (65 + k)) j = _
      by_cases q : j = k
      · rw [q, pk_us, h2 _ (by omega), Nat.add_comm]
      · rw [pk_un q]; exact h1 j (by omega)
    · show upd g k (g (65 + k)) j = _
      rw [pk_un (by omega)]; exact h2 j (by omega)
theorem ct_mul {x c : Int32} {k n : Nat} (h : x.toInt = (k : Int)) (hc : c.toInt = (n : Int)) (hk : k * n < 2147483648) : (x * c).toInt = ((k * n : Nat) : Int) := by
  have e : (x.toInt * c.toInt) = ((k * n : Nat) : Int) := by rw [h, hc]; rfl
  rw [iv_tmul (by omega) (by omega), e]
theorem q_keep (hA : sq_A n m G P jw br st ag fm se tl jaw brow stn fc fh ag' fm' se') (hy : iv yr 0 999) (hK : sqK n m G P tl rows past ac) :
    ∃ (rows2 past2 : Nat → Int32) (ac2 : Int32), m_Acts_keep ac rows yr jw br st ag fm se = (rows2, ac2) ∧ m_Model_keep yr ac jaw brow stn fc fh ag' fm' se' past = (past2, ac2) ∧ sqK n m G P tl rows2 past2 ac2 := by
  obtain ⟨⟨k0, k40⟩, hr⟩ := hK
  have e40 : (40 : Int32).toInt = 40 := rfl
  have e1 : (1 : Int32).toInt = 1 := rfl
  have E1 : m_Acts_keep ac rows yr jw br st ag fm se = (if ac < 40 then (m_State_writeTo yr jw br st ag fm se rows (ac * 65), ac + 1) else (m_State_writeTo yr jw br st ag fm se (va_cpy rows rows 65 0 2535) ((39 : Int32) * 65), (39 : Int32) + 1)) := rfl
  have E2 : m_Model_keep yr ac jaw brow stn fc fh ag' fm' se' past = (if ac = 40 then m_Model_keep_k12 yr ac jaw brow stn fc fh ag' fm' se' past (ac, 65, past) else (m_Model_packP yr jaw brow stn fc fh ag' fm' se' past ((65 : Int32) * ac), ac + 1)) := rfl
  obtain ⟨a, ha⟩ : ∃ a : Nat, ac.toInt = (a : Int) := ⟨ac.toInt.toNat, by omega⟩
  by_cases h : ac < 40
  · have hl := lt_i h
    have hn : ¬ ac = 40 := fun w => by rw [w] at hl; omega
    have b1 : (ac * 65).toInt = ((65 * a : Nat) : Int) := by rw [ct_mul (c := (65 : Int32)) (n := 65) ha rfl (by omega), Nat.mul_comm]
    have b2 : ((65 : Int32) * ac).toInt = ((65 * a : Nat) : Int) := ct_mul (x := (65 : Int32)) (k := 65) rfl ha (by omega)
    obtain ⟨w1, w2⟩ := q_wrG (yr := yr) (jw := jw) (br := br) (st := st) (ag := ag) (fm := fm) (se := se) (rows := rows) b1 (by omega)
    obtain ⟨v1, v2⟩ := q_pkP (yr := yr) (jaw := jaw) (brow := brow) (stn := stn) (fc := fc) (fh := fh) (ag := ag') (fm := fm') (se := se') (into := past) b2 (by omega)
    refine ⟨_, _, _, E1.trans (if_pos h), E2.trans (if_neg hn), ⟨by rw [iv_tadd (by omega) (by omega)]; omega, by rw [iv_tadd (by omega) (by omega)]; omega⟩, fun z hz => ?_⟩
    rw [iv_tadd (by omega) (by omega)] at hz
    by_cases q : z = a
    · rw [q]; exact ⟨_, _, _, _, _, _, _, _, _, _, _, _, _, _, _, w1, v1, hA, hy⟩
    · exact sqr_c (hr z (by omega)) (fun j h1 h2 => w2 j (by omega)) (fun j h1 h2 => v2 j (by omega))
  · have hl := le_i (iv_nlt h)
    have h40 : ac.toInt = 40 := by omega
    have hq : ac = 40 := Int32.toInt_inj.mp (by omega)
    have b1 : ((39 : Int32) * 65).toInt = ((2535 : Nat) : Int) := by decide
    have e39 : (ac - 1).toInt = ((39 : Nat) : Int) := by rw [iv_tsub (by omega) (by omega)]; omega
    have b2 : ((65 : Int32) * (ac - 1)).toInt = ((2535 : Nat) : Int) := ct_mul (x := (65 : Int32)) (k := 65) rfl e39 (by omega)
    obtain ⟨g, g1, g2⟩ := q_kpL (yr := yr) (jaw := jaw) (brow := brow) (stn := stn) (fc := fc) (fh := fh) (ag' := ag') (fm' := fm') (se' := se') (past := past) h40
    obtain ⟨w1, w2⟩ := q_wrG (yr := yr) (jw := jw) (br := br) (st := st) (ag := ag) (fm := fm) (se := se) (rows := va_cpy rows rows 65 0 2535) b1 (by omega)
    obtain ⟨v1, v2⟩ := q_pkP (yr := yr) (jaw := jaw) (brow := brow) (stn := stn) (fc := fc) (fh := fh) (ag := ag') (fm := fm') (se := se') (into := g) b2 (by omega)
    have ea : (ac - 1) + 1 = (39 : Int32) + 1 := by rw [hq]; decide
    refine ⟨_, _, _, E1.trans (if_neg h), E2.trans ((if_pos hq).trans (g1.trans (by rw [ea]))), ⟨by decide, by decide⟩, fun z hz => ?_⟩
    have hz : (z : Int) < 40 := hz
    by_cases q : z = 39
    · subst q; exact ⟨_, _, _, _, _, _, _, _, _, _, _, _, _, _, _, w1, v1, hA, hy⟩
    · obtain ⟨a1, a2, a3, a4, a5, a6, c1, c2, c3, c4, c5, c6, c7, c8, y, h1, h2, h3, h4⟩ := hr (z + 1) (by omega)
      refine ⟨a1, a2, a3, a4, a5, a6, c1, c2, c3, c4, c5, c6, c7, c8, y, rwG_s h1 (fun j hj => ?_), rwM_s h2 (fun j hj => ?_), h3, h4⟩
      · rw [w2 _ (by omega), pk_cpy_in (by omega) (by omega)]; congr 1; omega
      · rw [v2 _ (by omega), g2 _ (by omega)]; congr 1; omega
/-- a state alike stays so, where its functions are the same in their range -/
theorem sq_A_c (h : sq_A n m G P jw br st ag fm se tl jaw brow stn fc fh ag' fm' se') (e1 : ∀ k : Nat, k < 16 → jw2 k = jw k ∧ br2 k = br k) (e2 : ∀ k : Nat, k < 8 → st2 k = st k ∧ ag2 k = ag k ∧ fm2 k = fm k ∧ se2 k = se k) (e3 : ∀ k : Nat, k < 8 → jaw2 k = jaw k ∧ brow2 k = brow k ∧ stn2 k = stn k) (e4 : ∀ k : Nat, k < 8 → fc2 k = fc k ∧ fh2 k = fh k ∧ ag2' k = ag' k ∧ fm2' k = fm' k ∧ se2' k = se' k) : sq_A n m G P jw2 br2 st2 ag2 fm2 se2 tl jaw2 brow2 stn2 fc2 fh2 ag2' fm2' se2' := by
  obtain ⟨hG, hP, hn, hm, hn8, hm8, hs, hp, hg, hw, hse⟩ := h
  refine ⟨hG, hP, hn, hm, hn8, hm8, fun k hk => ?_, fun k hk => ?_, fun z hz => ?_, fun z hz => ?_, fun z hz => ?_, fun y z hy hz h1 h2 => ?_⟩
  · have k8 : k < 8 := by omega
    rw [(e1 k (by omega)).1, (e1 k (by omega)).2, (e2 k k8).1, (e3 k k8).1, (e3 k k8).2.1, (e3 k k8).2.2]; exact hs k hk
  · have k8 : k < 8 := by omega
    rw [(e1 (8 + k) (by omega)).1, (e1 (8 + k) (by omega)).2, (e2 k k8).2.1, (e2 k k8).2.2.1, (e2 k k8).2.2.2, (e4 k k8).1, (e4 k k8).2.1, (e4 k k8).2.2.1, (e4 k k8).2.2.2.1, (e4 k k8).2.2.2.2]; exact hp k hk
  · rw [(e3 z (by omega)).1, (e3 z (by omega)).2.1, (e3 z (by omega)).2.2]; exact hg z hz
  · have k8 : z < 8 := by omega
    rw [(e4 z k8).1, (e4 z k8).2.1, (e4 z k8).2.2.1, (e4 z k8).2.2.2.1]; exact hw z hz
  · rw [(e4 z (by omega)).2.2.2.2]; exact hse.1 z hz
  · rw [(e4 y (by omega)).2.2.2.2] at h1 h2
    rw [(e4 z (by omega)).2.2.2.2] at h2
    exact hse.2 y z hy hz h1 h2
theorem sqr_A (h : sqr n m G P rows past tl b) (hG : rwG rows b yr jw br st ag fm se) (hM : rwM past b yr jaw brow stn fc fh ag' fm' se') : sq_A n m G P jw br st ag fm se tl jaw brow stn fc fh ag' fm' se' ∧ iv yr 0 999 := by
  obtain ⟨a1, a2, a3, a4, a5, a6, c1, c2, c3, c4, c5, c6, c7, c8, y, ⟨g1, g2, g3⟩, ⟨m1, m2, m3⟩, h3, h4⟩ := h
  obtain ⟨p1, p2, p3⟩ := hG
  obtain ⟨q1, q2, q3⟩ := hM
  have ey : y = yr := g3.symm.trans p3
  refine ⟨sq_A_c h3 (fun k hk => ⟨(p1 k hk).1.symm.trans (g1 k hk).1, (p1 k hk).2.symm.trans (g1 k hk).2⟩) (fun k hk => ⟨(p2 k hk).1.symm.trans (g2 k hk).1, (p2 k hk).2.1.symm.trans (g2 k hk).2.1, (p2 k hk).2.2.1.symm.trans (g2 k hk).2.2.1, (p2 k hk).2.2.2.symm.trans (g2 k hk).2.2.2⟩) (fun k hk => ⟨(q2 k hk).1.symm.trans (m2 k hk).1, (q2 k hk).2.1.symm.trans (m2 k hk).2.1, (q2 k hk).2.2.symm.trans (m2 k hk).2.2⟩) (fun k hk => ⟨(q3 k hk).1.symm.trans (m3 k hk).1, (q3 k hk).2.1.symm.trans (m3 k hk).2.1, (q3 k hk).2.2.1.symm.trans (m3 k hk).2.2.1, (q3 k hk).2.2.2.1.symm.trans (m3 k hk).2.2.2.1, (q3 k hk).2.2.2.2.symm.trans (m3 k hk).2.2.2.2⟩), ey ▸ h4⟩
/-- an act undone -/
theorem q_und (hK : sqK n m G P tl rows past ac) (h0 : ac ≠ 0) :
    ∃ (jw2 br2 st2 ag2 fm2 se2 jaw2 brow2 stn2 fc2 fh2 ag2' fm2' se2' : Nat → Int32) (yr2 : Int32), m_Acts_takeBack ac rows yr jw br st ag fm se = (ac - 1, yr2, jw2, br2, st2, ag2, fm2, se2) ∧ m_Model_undo yr ac jaw brow stn fc fh ag' fm' se' past = (ac - 1, 0, ac - 1, yr2, jaw2, brow2, stn2, fc2, fh2, ag2', fm2', se2') ∧ sq_A n m G P jw2 br2 st2 ag2 fm2 se2 tl jaw2 brow2 stn2 fc2 fh2 ag2' fm2' se2' ∧ iv yr2 0 999 ∧ sqK n m G P tl rows past (ac - 1) := by
  obtain ⟨⟨k0, k40⟩, hr⟩ := hK
  have e0 : (0 : Int32).toInt = 0 := rfl
  have e1 : (1 : Int32).toInt = 1 := rfl
  have hn : ac.toInt ≠ (0 : Int32).toInt := fun w => h0 (Int32.toInt_inj.mp w)
  have hp : ¬ ac ≤ 0 := fun w => by have := le_i w; omega
  have es : (ac - 1).toInt = ac.toInt - 1 := by rw [iv_tsub (by omega) (by omega), e1]
  obtain ⟨a, ha⟩ : ∃ a : Nat, (ac - 1).toInt = (a : Int) := ⟨(ac - 1).toInt.toNat, by omega⟩
  have b1 : ((ac - 1) * 65).toInt = ((65 * a : Nat) : Int) := by rw [ct_mul (c := (65 : Int32)) (n := 65) ha rfl (by omega), Nat.mul_comm]
  have b2 : ((65 : Int32) * (ac - 1)).toInt = ((65 * a : Nat) : Int) := ct_mul (x := (65 : Int32)) (k := 65) rfl ha (by omega)
  obtain ⟨jw2, br2, st2, ag2, fm2, se2, f1, f2⟩ := q_rdG (jw := jw) (br := br) (st := st) (ag := ag) (fm := fm) (se := se) (rows := rows) b1 (by omega)
  obtain ⟨jaw2, brow2, stn2, fc2, fh2, ag2', fm2', se2', g1, g2⟩ := q_upP (jaw0 := jaw) (brow0 := brow) (stn0 := stn) (fc0 := fc) (fh0 := fh) (ag0 := ag') (fm0 := fm') (se0 := se') (f := past) b2 (by omega)
  have hs := hr a (by omega)
  have hyy : rows (65 * a + 64) = past (65 * a) := by
    obtain ⟨a1, a2, a3, a4, a5, a6, c1, c2, c3, c4, c5, c6, c7, c8, y, ⟨-, -, r3⟩, ⟨m1, -⟩, -, -⟩ := hs
    rw [r3, m1]
  rw [← hyy] at g1 g2
  have E1 : m_Acts_takeBack ac rows yr jw br st ag fm se = (if ac ≤ 0 then (ac, yr, jw, br, st, ag, fm, se) else uy_C7 (m_State_readFrom jw br st ag fm se rows ((ac - 1) * 65)) (fun f8 f9 f10 f11 f12 f13 x14 => (ac - 1, x14, f8, f9, f10, f11, f12, f13))) := rfl
  have E2 : m_Model_undo yr ac jaw brow stn fc fh ag' fm' se' past = (if ac = 0 then (-1, 0, ac, yr, jaw, brow, stn, fc, fh, ag', fm', se') else uy_C9 (m_Model_unpackP jaw brow stn fc fh ag' fm' se' past ((65 : Int32) * (ac - 1))) (fun x7 f8 f9 f10 f11 f12 f13 f14 f15 => (ac - 1, 0, ac - 1, x7, f8, f9, f10, f11, f12, f13, f14, f15))) := rfl
  rw [f1] at E1
  rw [g1] at E2
  have hq := sqr_A hs f2 g2
  exact ⟨jw2, br2, st2, ag2, fm2, se2, jaw2, brow2, stn2, fc2, fh2, ag2', fm2', se2', rows (65 * a + 64), E1.trans (if_neg hp), E2.trans (if_neg h0), hq.1, hq.2, ⟨by omega, by omega⟩, fun z hz => hr z (by omega)⟩
end UXP12
