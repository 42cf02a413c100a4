/-! a year: one of people looks for a place -/
theorem ad_dc (x y : Int32) : x + y + 1 = x + 1 + y := by rw [Int32.add_assoc, Int32.add_comm y 1, ← Int32.add_assoc]
section UXY7
variable {G P i g t sd dc yr sl : Int32} {jw br st ag fm se tl jaw brow stn fc fh ag' fm' se' sit sg V W A S se0 V0 W0 : Nat → Int32} {k n m j : Nat} {sd0 : Int32}
theorem q_ifs (hG : tl 0 = G) (h5 : tl 5 = sl) (hm : P.toInt = (m : Int)) (hm8 : m ≤ 8) (hi : i.toInt = (k : Int)) (hk : k < m) (hj : g.toInt = (j : Int)) (hjn : (j : Int) < G.toInt) (hs : sq_G G jw br st jaw brow stn) (hp : sq_P P jw br ag fm se fc fh ag' fm' se')
    (hw0 : 0 ≤ sl.toInt) (hC : ∀ k : Nat, (k : Int) < sl.toInt → cen 5 vmS (sit k) (sg k)) (hW : wf sg sl) (hd : sl ≠ 0 → dep sg sl.toInt.toNat = 1) (v3 : V 3 = yr) :
    ∃ (r : Int32) (V' W' A' S' : Nat → Int32), m_Walk_isForSitting jw br st ag fm sl sit V W i g = (r, V', W') ∧ m_Model_wouldSit yr tl sg jaw brow stn fc fh ag' fm' A S i g = (r, A', S') ∧ V' 3 = yr := by
  have e0 : (0 : Int32).toInt = 0 := rfl
  have hu := q_unl (p := i) (g := g) hs hp hi hj (by omega) hjn (by omega)
  have ci := ct_n hi
  have cj := ct_n hj
  obtain ⟨p1, p2, p3, p4, p5⟩ := hp k (by omega)
  obtain ⟨g1, g2, g3⟩ := hs j hjn
  obtain ⟨d, ed⟩ : ∃ d : Int32, d = m_Model_unlikeOf jaw brow fc fh i g := ⟨_, rfl⟩
  by_cases h : sl = 0
  · have E1 : m_Walk_isForSitting jw br st ag fm sl sit V W i g = (if (2 : Int32) < m_State_unlikeness jw br (m_State_faceOf i) g then (0, V, W) else (1, V, W)) := if_pos h
    have q : tl (5 : Int32).toNatClampNeg = 0 := by show tl 5 = 0; rw [h5]; exact h
    have E2 : m_Model_wouldSit yr tl sg jaw brow stn fc fh ag' fm' A S i g = (if (2 : Int32) < m_Model_unlikeOf jaw brow fc fh i g then (0, A, S) else (1, A, S)) := if_pos q
    rw [hu, ← ed] at E1
    rw [← ed] at E2
    by_cases hd2 : (2 : Int32) < d
    · exact ⟨0, V, W, A, S, E1.trans (if_pos hd2), E2.trans (if_pos hd2), v3⟩
    · exact ⟨1, V, W, A, S, E1.trans (if_neg hd2), E2.trans (if_neg hd2), v3⟩
  · have q : ¬ tl (5 : Int32).toNatClampNeg = 0 := by show ¬ tl 5 = 0; rw [h5]; exact h
    obtain ⟨f, ef⟩ : ∃ f : Int32, f = (if fm' k = g then 1 else 0) := ⟨_, rfl⟩
    obtain ⟨V', eV⟩ : ∃ z : Nat → Int32, z = upd (upd (upd (upd V 4 d) 5 (ag' k)) 1 (stn j)) 6 f := ⟨_, rfl⟩
    obtain ⟨A', eA⟩ : ∃ z : Nat → Int32, z = upd (upd (upd (upd (upd A 0 d) 1 (ag' k)) 2 (stn j)) 3 f) 4 yr := ⟨_, rfl⟩
    have X := q_wor (items := sit) (V := V') (A := A') (w0 := W) (st0 := S) hw0 hC (fun y hy => by
      rw [eV, eA]
      rcases (show y = 0 ∨ y = 1 ∨ y = 2 ∨ y = 3 ∨ y = 4 by omega) with rfl | rfl | rfl | rfl | rfl
      · rfl
      · rfl
      · rfl
      · rfl
      · exact v3) hW (hd h)
    have E1 : m_Walk_isForSitting jw br st ag fm sl sit V W i g = (if (m_Rule_worth sl sit V' W).1 ≤ 0 then (0, V', (m_Rule_worth sl sit V' W).2) else (1, V', (m_Rule_worth sl sit V' W).2)) := by
      have a1 : m_Walk_isForSitting jw br st ag fm sl sit V W i g = (if fm i.toNatClampNeg = g then m_Walk_isForSitting_k98 jw br st ag fm sl sit V W i g 1 6 (upd (upd (upd V 4 (m_State_unlikeness jw br (m_State_faceOf i) g)) 5 (ag i.toNatClampNeg)) 1 (st g.toNatClampNeg)) W else m_Walk_isForSitting_k98 jw br st ag fm sl sit V W i g 0 6 (upd (upd (upd V 4 (m_State_unlikeness jw br (m_State_faceOf i) g)) 5 (ag i.toNatClampNeg)) 1 (st g.toNatClampNeg)) W) := if_neg h
      rw [ci, cj, p3, p4, g3, hu, ← ed] at a1
      rw [a1, eV, ef]
      by_cases hq : fm' k = g
      · rw [if_pos hq, if_pos hq]; rfl
      · rw [if_neg hq, if_neg hq]; rfl
    have E2 : m_Model_wouldSit yr tl sg jaw brow stn fc fh ag' fm' A S i g = (if (m_Model_valueNow A' S sg sl).1 ≤ 0 then (0, A', (m_Model_valueNow A' S sg sl).2) else (1, A', (m_Model_valueNow A' S sg sl).2)) := by
      have a1 : m_Model_wouldSit yr tl sg jaw brow stn fc fh ag' fm' A S i g = (if fm' i.toNatClampNeg = g then m_Model_wouldSit_k78 yr tl sg jaw brow stn fc fh ag' fm' A S i g 1 3 (upd (upd (upd A 0 (m_Model_unlikeOf jaw brow fc fh i g)) 1 (ag' i.toNatClampNeg)) 2 (stn g.toNatClampNeg)) S else m_Model_wouldSit_k78 yr tl sg jaw brow stn fc fh ag' fm' A S i g 0 3 (upd (upd (upd A 0 (m_Model_unlikeOf jaw brow fc fh i g)) 1 (ag' i.toNatClampNeg)) 2 (stn g.toNatClampNeg)) S) := if_neg q
      rw [ci, cj, ← ed] at a1
      rw [a1, eA, ef, ← h5]
      by_cases hq : fm' k = g
      · rw [if_pos hq, if_pos hq]; rfl
      · rw [if_neg hq, if_neg hq]; rfl
    have v3' : V' 3 = yr := by rw [eV]; exact v3
    rw [X] at E1
    by_cases hr : (m_Model_valueNow A' S sg sl).1 ≤ 0
    · exact ⟨0, _, _, _, _, E1.trans (if_pos hr), E2.trans (if_pos hr), v3'⟩
    · exact ⟨1, _, _, _, _, E1.trans (if_neg hr), E2.trans (if_neg hr), v3'⟩
/-- seats: places there are, one in each at most -/
def ws (m n : Nat) (se : Nat → Int32) : Prop := (∀ z : Nat, z < m → iv (se z) (-1) ((n : Int) - 1)) ∧ ∀ y z : Nat, y < m → z < m → se y ≠ -1 → se y = se z → y = z
theorem q_se1 (hG : tl 0 = G) (hP : tl 1 = P) (h5 : tl 5 = sl) (hm : P.toInt = (m : Int)) (hm8 : m ≤ 8) (hn : G.toInt = (n : Int)) (hn8 : n ≤ 8) (hi : i.toInt = (k : Int)) (hk : k < m) (hs : sq_G G jw br st jaw brow stn) (hp : sq_P P jw br ag fm se fc fh ag' fm' se') (hb : bs t (tkn se' m)) (hsw : ws m n se')
    (hw0 : 0 ≤ sl.toInt) (hC : ∀ k : Nat, (k : Int) < sl.toInt → cen 5 vmS (sit k) (sg k)) (hW : wf sg sl) (hd : sl ≠ 0 → dep sg sl.toInt.toNat = 1) (v3 : V 3 = yr) :
    ∃ (sd1 t1 : Int32) (se1 V1 W1 A1 S1 se1' : Nat → Int32), m_Walk_seatAll_b10 sd0 G P jw br st ag fm se0 sl sit V0 W0 sd t i se V W = .inl (sd1, t1, i + 1, se1, V1, W1) ∧ m_Model_seek yr (sd + dc) tl sg jaw brow stn fc fh ag' fm' se' A S i = (A1, S1, se1', sd1 + dc) ∧ sq_P P jw br ag fm se1 fc fh ag' fm' se1' ∧ bs t1 (tkn se1' m) ∧ ws m n se1' ∧ V1 3 = yr := by
  have em : (-1 : Int32).toInt = -1 := rfl
  have ci := ct_n hi
  have hPm : P.toInt.toNat = m := by omega
  have h1 : ¬ P ≤ i := fun w => by have := le_i w; omega
  obtain ⟨p1, p2, p3, p4, p5⟩ := hp k (by omega)
  have hsk := hsw.1 k hk
  have E1 : m_Walk_seatAll_b10 sd0 G P jw br st ag fm se0 sl sit V0 W0 sd t i se V W = (if se i.toNatClampNeg = -1 then (if m_State_closest G jw br i t = -1 then .inl (sd, t, i + 1, se, V, W) else uy_C3 (m_Walk_isForSitting jw br st ag fm sl sit V W i (m_State_closest G jw br i t)) (fun r14 f16 f17 => if r14 = 0 then .inl (sd, t, i + 1, se, f16, f17) else .inl (sd + 1, t ||| ((1 : Int32) <<< (m_State_closest G jw br i t &&& 31)), i + 1, upd se i.toNatClampNeg (m_State_closest G jw br i t), f16, f17))) else uy_C3 (m_Walk_isForSitting jw br st ag fm sl sit V W i (se i.toNatClampNeg)) (fun r28 f30 f31 => if r28 = 0 then .inl (sd, t &&& (((1 : Int32) <<< (se i.toNatClampNeg &&& 31)) ^^^ (-1)), i + 1, upd se i.toNatClampNeg (-1), f30, f31) else .inl (sd, t, i + 1, se, f30, f31))) := if_neg h1
  have E2 : m_Model_seek yr (sd + dc) tl sg jaw brow stn fc fh ag' fm' se' A S i = (if se' i.toNatClampNeg = -1 then (if m_Model_mostLike tl jaw brow fc fh se' i 1 = -1 then (A, S, se', sd + dc) else uy_C3 (m_Model_wouldSit yr tl sg jaw brow stn fc fh ag' fm' A S i (m_Model_mostLike tl jaw brow fc fh se' i 1)) (fun r10 f12 f13 => if r10 = 0 then (f12, f13, se', sd + dc) else (f12, f13, upd se' i.toNatClampNeg (m_Model_mostLike tl jaw brow fc fh se' i 1), sd + dc + 1))) else uy_C3 (m_Model_wouldSit yr tl sg jaw brow stn fc fh ag' fm' A S i (se' i.toNatClampNeg)) (fun r23 f25 f26 => if r23 = 0 then (f25, f26, upd se' i.toNatClampNeg (-1), sd + dc) else (f25, f26, se', sd + dc))) := rfl
  rw [ci] at E1 E2
  rw [p5] at E1
  by_cases hx : se' k = -1
  · have C := q_clo1 (jw := jw) (br := br) (jaw := jaw) (brow := brow) (fc := fc) (fh := fh) (p := i) (t := t) hG hP (by omega) (by omega) (by omega) (by rw [hPm]; exact hb) (fun y z hy hz => q_unl (p := i) (g := y) hs hp hi hy (by omega) hz (by omega))
    obtain ⟨c1, c2, c3⟩ := C
    rw [hPm] at c3
    have E1' := E1.trans (if_pos hx)
    have E2' := E2.trans (if_pos hx)
    rw [c1] at E1'
    generalize m_Model_mostLike tl jaw brow fc fh se' i 1 = g at E1' E2' c2 c3
    by_cases hg : g = -1
    · exact ⟨sd, t, se, V, W, A, S, se', E1'.trans (if_pos hg), E2'.trans (if_pos hg), hp, hb, hsw, v3⟩
    · obtain ⟨z, hz1, hz2, hz3⟩ := c3.resolve_left hg
      obtain ⟨r, V', W', A', S', f1, f2, f3⟩ := q_ifs (g := g) (A := A) (S := S) (W := W) hG h5 hm hm8 hi hk hz1 hz2 hs hp hw0 hC hW hd v3
      have E1'' := E1'.trans (if_neg hg)
      have E2'' := E2'.trans (if_neg hg)
      rw [f1] at E1''
      rw [f2] at E2''
      by_cases hr : r = 0
      · exact ⟨sd, t, se, V', W', A', S', se', E1''.trans (if_pos hr), E2''.trans (if_pos hr), hp, hb, hsw, f3⟩
      · refine ⟨sd + 1, _, upd se k g, V', W', A', S', upd se' k g, E1''.trans (if_neg hr), (E2''.trans (if_neg hr)).trans (by rw [ad_dc]), ?_, ?_, ?_, f3⟩
        · intro y hy
          obtain ⟨r1, r2, r3, r4, r5⟩ := hp y hy
          by_cases ey : y = k
          · rw [ey, pk_us, pk_us, ← ey]; exact ⟨r1, r2, r3, r4, rfl⟩
          · rw [pk_un ey, pk_un ey]; exact ⟨r1, r2, r3, r4, r5⟩
        · refine bs_or (a := z) hb (by omega) hz1 (fun y hy => ⟨?_, ?_⟩)
          · rintro ⟨q, hq, hv⟩
            by_cases eq : q = k
            · rw [eq, pk_us] at hv; right; omega
            · rw [pk_un eq] at hv; exact Or.inl ⟨q, hq, hv⟩
          · rintro (⟨q, hq, hv⟩ | hv)
            · by_cases eq : q = k
              · rw [eq, hx, em] at hv; omega
              · exact ⟨q, hq, by rw [pk_un eq]; exact hv⟩
            · exact ⟨k, hk, by rw [pk_us]; omega⟩
        · refine ⟨fun y hy => ?_, fun y q hy hq h2 h3 => ?_⟩
          · by_cases ey : y = k
            · rw [ey, pk_us]; exact ⟨by omega, by omega⟩
            · rw [pk_un ey]; exact hsw.1 y hy
          · by_cases ey : y = k
            · by_cases eq : q = k
              · rw [ey, eq]
              · rw [ey, pk_us, pk_un eq] at h3
                exact absurd ⟨q, hq, by rw [← h3]; exact hz1⟩ hz3
            · by_cases eq : q = k
              · rw [eq, pk_us, pk_un ey] at h3
                exact absurd ⟨y, hy, by rw [h3]; exact hz1⟩ hz3
              · rw [pk_un ey] at h2 h3
                rw [pk_un eq] at h3
                exact hsw.2 y q hy hq h2 h3
  · have hne : (se' k).toInt ≠ -1 := fun w => hx (Int32.toInt_inj.mp w)
    have s1 := hsk.1; have s2 := hsk.2
    obtain ⟨z, hz1⟩ : ∃ z : Nat, (se' k).toInt = (z : Int) := ⟨(se' k).toInt.toNat, by omega⟩
    obtain ⟨r, V', W', A', S', f1, f2, f3⟩ := q_ifs (g := se' k) (A := A) (S := S) (W := W) hG h5 hm hm8 hi hk hz1 (by omega) hs hp hw0 hC hW hd v3
    have E1'' := E1.trans (if_neg hx)
    have E2'' := E2.trans (if_neg hx)
    rw [f1] at E1''
    rw [f2] at E2''
    by_cases hr : r = 0
    · refine ⟨sd, _, upd se k (-1), V', W', A', S', upd se' k (-1), E1''.trans (if_pos hr), E2''.trans (if_pos hr), ?_, ?_, ?_, f3⟩
      · intro y hy
        obtain ⟨r1, r2, r3, r4, r5⟩ := hp y hy
        by_cases ey : y = k
        · rw [ey, pk_us, pk_us, ← ey]; exact ⟨r1, r2, r3, r4, rfl⟩
        · rw [pk_un ey, pk_un ey]; exact ⟨r1, r2, r3, r4, r5⟩
      · refine bs_clr (a := z) hb (by omega) hz1 (fun y hy => ⟨?_, ?_⟩)
        · rintro ⟨q, hq, hv⟩
          by_cases eq : q = k
          · rw [eq, pk_us, em] at hv; omega
          · rw [pk_un eq] at hv
            refine ⟨⟨q, hq, hv⟩, fun w => eq ?_⟩
            exact (hsw.2 k q hk hq hx (Int32.toInt_inj.mp (by omega))).symm
        · rintro ⟨⟨q, hq, hv⟩, hw⟩
          by_cases eq : q = k
          · rw [eq] at hv; omega
          · exact ⟨q, hq, by rw [pk_un eq]; exact hv⟩
      · refine ⟨fun y hy => ?_, fun y q hy hq h2 h3 => ?_⟩
        · by_cases ey : y = k
          · rw [ey, pk_us]; exact ⟨by omega, by omega⟩
          · rw [pk_un ey]; exact hsw.1 y hy
        · by_cases ey : y = k
          · rw [ey, pk_us] at h2; exact absurd rfl h2
          · by_cases eq : q = k
            · rw [pk_un ey] at h2 h3
              rw [eq, pk_us] at h3; exact absurd h3 h2
            · rw [pk_un ey] at h2 h3
              rw [pk_un eq] at h3
              exact hsw.2 y q hy hq h2 h3
    · exact ⟨sd, t, se, V', W', A', S', se', E1''.trans (if_neg hr), E2''.trans (if_neg hr), hp, hb, hsw, f3⟩
end UXY7
