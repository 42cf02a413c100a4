/-! a year: one of people grows older -/
section UXY6
variable {G P i ce ob : Int32} {jw br st ag fm se tl jaw brow stn fc fh ag' fm' se' orp jw0 br0 ag0 : Nat → Int32} {k n m : Nat}
/-- people's faces, ages and families between their bounds -/
def wp (m n : Nat) (fc fh ag fm : Nat → Int32) : Prop := ∀ z : Nat, z < m → iv (fc z) 0 9 ∧ iv (fh z) 0 9 ∧ iv (ag z) 0 99 ∧ iv (fm z) (-1) ((n : Int) - 1)
theorem mnc (c v : Int32) : (if c < v then c else v) = (if v < c then v else c) := by
  by_cases h1 : c < v
  · rw [if_pos h1, if_neg (fun w => by have := lt_i w; have := lt_i h1; omega)]
  · rw [if_neg h1]
    by_cases h2 : v < c
    · rw [if_pos h2]
    · rw [if_neg h2]; exact Int32.toInt_inj.mp (by have := nlt_i h1; have := nlt_i h2; omega)
theorem q_nea {a b : Int32} (ha : iv a 0 9) (hb : iv b 0 9) : m_State_nearer a b = m_Model_nearer a b ∧ iv (m_Model_nearer a b) 0 9 := by
  have e0 : (0 : Int32).toInt = 0 := rfl
  have e1 : (1 : Int32).toInt = 1 := rfl
  have em : (-1 : Int32).toInt = -1 := rfl
  have a0 := ha.1; have a9 := ha.2; have b0 := hb.1; have b9 := hb.2
  have E1 : m_State_nearer a b = a + (if a ≤ b then (if b = a then 0 else 1) else -1) := rfl
  have E2 : m_Model_nearer a b = (if b ≤ a then (if a ≤ b then a else a - 1) else a + 1) := rfl
  have s1 : (a - 1).toInt = a.toInt - 1 := by rw [iv_tsub (by omega) (by omega), e1]
  have s2 : (a + 1).toInt = a.toInt + 1 := by rw [iv_tadd (by omega) (by omega), e1]
  have s3 : (a + -1).toInt = a.toInt - 1 := by rw [iv_tadd (by omega) (by omega), em]; omega
  have s4 : (a + 0).toInt = a.toInt := by rw [iv_tadd (by omega) (by omega), e0]; omega
  rw [E1, E2]
  by_cases h1 : a ≤ b
  · have l1 := le_i h1
    by_cases h2 : b = a
    · rw [if_pos h1, if_pos h2, if_pos (by rw [h2]; exact Int32.le_iff_toInt_le.mpr (Int.le_refl _)), if_pos h1]
      exact ⟨Int32.toInt_inj.mp s4, ha⟩
    · have h3 : ¬ b ≤ a := fun w => h2 (Int32.toInt_inj.mp (by have := le_i w; omega))
      have l3 := nle_i h3
      rw [if_pos h1, if_neg h2, if_neg h3]
      exact ⟨rfl, ⟨by rw [s2]; omega, by rw [s2]; omega⟩⟩
  · have l1 := nle_i h1
    rw [if_neg h1, if_pos (Int32.le_iff_toInt_le.mpr (by omega)), if_neg h1]
    exact ⟨Int32.toInt_inj.mp (by rw [s3, s1]), ⟨by rw [s1]; omega, by rw [s1]; omega⟩⟩
theorem q_gr1 (hP : tl 1 = P) (h3 : tl 3 = ce) (hm : P.toInt = (m : Int)) (hm8 : m ≤ 8) (hn : G.toInt = (n : Int)) (hn8 : n ≤ 8) (hi : i.toInt = (k : Int)) (hk : k < m) (hs : sq_G G jw br st jaw brow stn) (hp : sq_P P jw br ag fm se fc fh ag' fm' se') (hob : bs ob (fun z => z < m ∧ orp z = 1)) (hg : wg n jaw brow stn) (hw : wp m n fc fh ag' fm') :
    ∃ jw' br' ag1 age' fc' fh' : Nat → Int32, m_Walk_growAll_b2 P jw0 br0 ag0 fm ob ce i jw br ag = .inl (i + 1, jw', br', ag1) ∧ m_Model_growOlder tl orp jaw brow fc fh ag' fm' i = (age', fc', fh') ∧ sq_P P jw' br' ag1 fm se fc' fh' age' fm' se' ∧ (∀ z : Nat, z < 8 → jw' z = jw z ∧ br' z = br z) ∧ wp m n fc' fh' age' fm' := by
  have e0 : (0 : Int32).toInt = 0 := rfl
  have e1 : (1 : Int32).toInt = 1 := rfl
  have e99 : (99 : Int32).toInt = 99 := rfl
  have em : (-1 : Int32).toInt = -1 := rfl
  have ci := ct_n hi
  have c8 := ct_8 hi (by omega)
  have h1 : ¬ P ≤ i := fun w => by have := le_i w; omega
  obtain ⟨p1, p2, p3, p4, p5⟩ := hp k (by omega)
  obtain ⟨w1, w2, w3, w4⟩ := hw k hk
  obtain ⟨na, ena⟩ : ∃ v : Int32, v = (if ag' k + 1 < 99 then ag' k + 1 else 99) := ⟨_, rfl⟩
  have hna : iv na 0 99 := by
    have a0 := w3.1; have a9 := w3.2
    have s2 : (ag' k + 1).toInt = (ag' k).toInt + 1 := by rw [iv_tadd (by omega) (by omega), e1]
    rw [ena]
    by_cases h : ag' k + 1 < 99
    · rw [if_pos h]; have := lt_i h; exact ⟨by rw [s2]; omega, by rw [s2]; omega⟩
    · rw [if_neg h]; exact ⟨by omega, by omega⟩
  -- the class
  have E1 : m_Walk_growAll_b2 P jw0 br0 ag0 fm ob ce i jw br ag = (if (ob >>> (i &&& 31)) &&& 1 = 1 then m_Walk_growAll_k70 P jw0 br0 ag0 fm ob ce i (if (99 : Int32) < ag i.toNatClampNeg + 1 then 99 else ag i.toNatClampNeg + 1) (fm i.toNatClampNeg) 1 jw br (upd ag i.toNatClampNeg (if (99 : Int32) < ag i.toNatClampNeg + 1 then 99 else ag i.toNatClampNeg + 1)) else m_Walk_growAll_k70 P jw0 br0 ag0 fm ob ce i (if (99 : Int32) < ag i.toNatClampNeg + 1 then 99 else ag i.toNatClampNeg + 1) (fm i.toNatClampNeg) 0 jw br (upd ag i.toNatClampNeg (if (99 : Int32) < ag i.toNatClampNeg + 1 then 99 else ag i.toNatClampNeg + 1))) := if_neg h1
  rw [ci, p3, p4, mnc, ← ena] at E1
  -- the reference
  have E2 : m_Model_growOlder tl orp jaw brow fc fh ag' fm' i = (if upd ag' i.toNatClampNeg (if ag' i.toNatClampNeg + 1 < 99 then ag' i.toNatClampNeg + 1 else 99) i.toNatClampNeg < tl 3 then (upd ag' i.toNatClampNeg (if ag' i.toNatClampNeg + 1 < 99 then ag' i.toNatClampNeg + 1 else 99), fc, fh) else if orp i.toNatClampNeg = 1 then (upd ag' i.toNatClampNeg (if ag' i.toNatClampNeg + 1 < 99 then ag' i.toNatClampNeg + 1 else 99), fc, fh) else if fm' i.toNatClampNeg = -1 then (upd ag' i.toNatClampNeg (if ag' i.toNatClampNeg + 1 < 99 then ag' i.toNatClampNeg + 1 else 99), fc, fh) else (upd ag' i.toNatClampNeg (if ag' i.toNatClampNeg + 1 < 99 then ag' i.toNatClampNeg + 1 else 99), upd fc i.toNatClampNeg (m_Model_nearer (fc i.toNatClampNeg) (jaw (fm' i.toNatClampNeg).toNatClampNeg)), upd fh i.toNatClampNeg (m_Model_nearer (fh i.toNatClampNeg) (brow (fm' i.toNatClampNeg).toNatClampNeg)))) := rfl
  rw [ci, ← ena, h3] at E2
  have E2 : m_Model_growOlder tl orp jaw brow fc fh ag' fm' i = (if upd ag' k na k < ce then (upd ag' k na, fc, fh) else if orp k = 1 then (upd ag' k na, fc, fh) else if fm' k = -1 then (upd ag' k na, fc, fh) else (upd ag' k na, upd fc k (m_Model_nearer (fc k) (jaw (fm' k).toNatClampNeg)), upd fh k (m_Model_nearer (fh k) (brow (fm' k).toNatClampNeg)))) := E2
  rw [pk_us] at E2
  have stay : sq_P P jw br (upd ag k na) fm se fc fh (upd ag' k na) fm' se' ∧ wp m n fc fh (upd ag' k na) fm' := by
    refine ⟨fun y hy => ?_, fun y hy => ?_⟩
    · obtain ⟨r1, r2, r3, r4, r5⟩ := hp y hy
      by_cases ey : y = k
      · rw [ey, pk_us, pk_us, ← ey]; exact ⟨r1, r2, rfl, r4, r5⟩
      · rw [pk_un ey, pk_un ey]; exact ⟨r1, r2, r3, r4, r5⟩
    · obtain ⟨r1, r2, r3, r4⟩ := hw y hy
      by_cases ey : y = k
      · rw [ey, pk_us, ← ey]; exact ⟨r1, r2, hna, r4⟩
      · rw [pk_un ey]; exact ⟨r1, r2, r3, r4⟩
  have K0 : ∀ s0 : Int32, m_Walk_growAll_k70 P jw0 br0 ag0 fm ob ce i na (fm' k) s0 jw br (upd ag k na) = (if na < ce then .inl (i + 1, jw, br, upd ag k na) else if s0 = 0 then (if fm' k = -1 then .inl (i + 1, jw, br, upd ag k na) else .inl (i + 1, (m_State_growLike jw br i (fm' k)).1, (m_State_growLike jw br i (fm' k)).2, upd ag k na)) else .inl (i + 1, jw, br, upd ag k na)) := fun s0 => rfl
  by_cases hc : na < ce
  · refine ⟨jw, br, upd ag k na, upd ag' k na, fc, fh, ?_, E2.trans (if_pos hc), stay.1, fun _ _ => ⟨rfl, rfl⟩, stay.2⟩
    rw [E1]
    by_cases hb : (ob >>> (i &&& 31)) &&& 1 = 1
    · rw [if_pos hb, K0, if_pos hc]
    · rw [if_neg hb, K0, if_pos hc]
  · by_cases ho : orp k = 1
    · refine ⟨jw, br, upd ag k na, upd ag' k na, fc, fh, ?_, E2.trans ((if_neg hc).trans (if_pos ho)), stay.1, fun _ _ => ⟨rfl, rfl⟩, stay.2⟩
      rw [E1, if_pos ((bs_is hob (by omega) hi).1.mpr ⟨hk, ho⟩), K0, if_neg hc, if_neg (by decide)]
    · have hb : ¬ (ob >>> (i &&& 31)) &&& 1 = 1 := fun w => ho ((bs_is hob (by omega) hi).1.mp w).2
      by_cases hf : fm' k = -1
      · refine ⟨jw, br, upd ag k na, upd ag' k na, fc, fh, ?_, E2.trans ((if_neg hc).trans ((if_neg ho).trans (if_pos hf))), stay.1, fun _ _ => ⟨rfl, rfl⟩, stay.2⟩
        rw [E1, if_neg hb, K0, if_neg hc, if_pos rfl, if_pos hf]
      · have f0 := w4.1; have f9 := w4.2
        have fn : (fm' k).toInt ≠ -1 := fun w => hf (Int32.toInt_inj.mp w)
        obtain ⟨f, ef⟩ : ∃ f : Nat, (fm' k).toInt = (f : Int) := ⟨(fm' k).toInt.toNat, by omega⟩
        have cf := ct_n ef
        obtain ⟨g1, g2, g3⟩ := hs f (by omega)
        obtain ⟨v1, v2, v3⟩ := hg f (by omega)
        have n1 := q_nea w1 v1
        have n2 := q_nea w2 v2
        have EG : m_State_growLike jw br i (fm' k) = (upd jw ((8 : Int32) + i).toNatClampNeg (m_State_nearer (jw ((8 : Int32) + i).toNatClampNeg) (jw (fm' k).toNatClampNeg)), upd br ((8 : Int32) + i).toNatClampNeg (m_State_nearer (br ((8 : Int32) + i).toNatClampNeg) (br (fm' k).toNatClampNeg))) := rfl
        rw [c8, cf, p1, p2, g1, g2, n1.1, n2.1] at EG
        rw [cf] at E2
        refine ⟨upd jw (8 + k) (m_Model_nearer (fc k) (jaw f)), upd br (8 + k) (m_Model_nearer (fh k) (brow f)), upd ag k na, upd ag' k na, upd fc k (m_Model_nearer (fc k) (jaw f)), upd fh k (m_Model_nearer (fh k) (brow f)), ?_, E2.trans ((if_neg hc).trans ((if_neg ho).trans (if_neg hf))), ?_, ?_, ?_⟩
        · rw [E1, if_neg hb, K0, if_neg hc, if_pos rfl, if_neg hf, EG]
        · intro y hy
          obtain ⟨r1, r2, r3, r4, r5⟩ := hp y hy
          by_cases ey : y = k
          · rw [ey, pk_us, pk_us, pk_us, pk_us, pk_us, pk_us, ← ey]; exact ⟨rfl, rfl, rfl, r4, r5⟩
          · rw [pk_un (show 8 + y ≠ 8 + k by omega), pk_un (show 8 + y ≠ 8 + k by omega), pk_un ey, pk_un ey, pk_un ey, pk_un ey]; exact ⟨r1, r2, r3, r4, r5⟩
        · intro y hy
          rw [pk_un (show y ≠ 8 + k by omega), pk_un (show y ≠ 8 + k by omega)]; exact ⟨rfl, rfl⟩
        · intro y hy
          obtain ⟨r1, r2, r3, r4⟩ := hw y hy
          by_cases ey : y = k
          · rw [ey, pk_us, pk_us, pk_us]; exact ⟨n1.2, n2.2, hna, by rw [← ey]; exact r4⟩
          · rw [pk_un ey, pk_un ey, pk_un ey]; exact ⟨r1, r2, r3, r4⟩
end UXY6
