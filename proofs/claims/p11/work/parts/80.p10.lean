/-! what states show, alike -/
section UXZ
variable {G P g p t : Int32} {jw br st ag fm se tl jaw brow stn fc fh ag' fm' se' : Nat → Int32}
theorem q_loa (h0 : tl 0 = G) (hs : ∀ k : Nat, (k : Int) < G.toInt → st k = stn k) : m_State_loafBits G st = m_Model_loaves tl stn := by
  have hr := iv_rng G
  unfold m_State_loafBits m_State_loafBits_k4 m_Model_loaves m_Model_loaves_k4
  refine uy_sim (α := Int32 × Int32) (α' := Int32 × Int32) G.toInt.toNat (fun k a a' => a = a' ∧ a.2.toInt = (k : Int)) (fun x y => x = y) ?_ ⟨rfl, rfl⟩
  rintro k ⟨b, i⟩ a' hk ⟨rfl, hc⟩
  have hc : i.toInt = (k : Int) := hc
  have en := ct_n hc
  have E1 : m_State_loafBits_b4 G st b i = (if G ≤ i then .inr b else if st i.toNatClampNeg = 0 then .inl (b ||| ((1 : Int32) <<< (i &&& 31)), i + 1) else .inl (b, i + 1)) := rfl
  have E2 : m_Model_loaves_b4 tl stn b i = (if G ≤ i then .inr b else if stn i.toNatClampNeg = 0 then .inl (b ||| ((1 : Int32) <<< (i &&& 31)), i + 1) else .inl (b ||| 0, i + 1)) := by rw [← h0]; rfl
  by_cases h1 : G ≤ i
  · exact Or.inr ⟨_, _, E1.trans (if_pos h1), E2.trans (if_pos h1), rfl⟩
  · have hl := ct_lt h1 hc
    have es : st k = stn k := hs k hl
    rw [en, es] at E1
    rw [en] at E2
    by_cases h2 : stn k = 0
    · exact Or.inl ⟨by omega, _, _, E1.trans ((if_neg h1).trans (if_pos h2)), E2.trans ((if_neg h1).trans (if_pos h2)), rfl, ct_s hc (by omega)⟩
    · exact Or.inl ⟨by omega, _, _, E1.trans ((if_neg h1).trans (if_neg h2)), E2.trans ((if_neg h1).trans (if_neg h2)), by rw [or0], ct_s hc (by omega)⟩
theorem q_sib (h0 : tl 1 = P) (hs : ∀ k : Nat, (k : Int) < P.toInt → se k = se' k) : m_State_sitterBits P se = m_Model_sitting tl se' := by
  have hr := iv_rng P
  unfold m_State_sitterBits m_State_sitterBits_k4 m_Model_sitting m_Model_sitting_k4
  refine uy_sim (α := Int32 × Int32) (α' := Int32 × Int32) P.toInt.toNat (fun k a a' => a = a' ∧ a.2.toInt = (k : Int)) (fun x y => x = y) ?_ ⟨rfl, rfl⟩
  rintro k ⟨b, i⟩ a' hk ⟨rfl, hc⟩
  have hc : i.toInt = (k : Int) := hc
  have en := ct_n hc
  have E1 : m_State_sitterBits_b4 P se b i = (if P ≤ i then .inr b else if se i.toNatClampNeg = -1 then .inl (b, i + 1) else .inl (b ||| ((1 : Int32) <<< (i &&& 31)), i + 1)) := rfl
  have E2 : m_Model_sitting_b4 tl se' b i = (if P ≤ i then .inr b else if se' i.toNatClampNeg = -1 then .inl (b ||| 0, i + 1) else .inl (b ||| ((1 : Int32) <<< (i &&& 31)), i + 1)) := by rw [← h0]; rfl
  by_cases h1 : P ≤ i
  · exact Or.inr ⟨_, _, E1.trans (if_pos h1), E2.trans (if_pos h1), rfl⟩
  · have hl := ct_lt h1 hc
    have es : se k = se' k := hs k hl
    rw [en, es] at E1
    rw [en] at E2
    by_cases h2 : se' k = -1
    · exact Or.inl ⟨by omega, _, _, E1.trans ((if_neg h1).trans (if_pos h2)), E2.trans ((if_neg h1).trans (if_pos h2)), by rw [or0], ct_s hc (by omega)⟩
    · exact Or.inl ⟨by omega, _, _, E1.trans ((if_neg h1).trans (if_neg h2)), E2.trans ((if_neg h1).trans (if_neg h2)), rfl, ct_s hc (by omega)⟩
theorem q_fab (h0 : tl 1 = P) (hs : ∀ k : Nat, (k : Int) < P.toInt → fm k = fm' k) : m_State_familyBits P fm g = m_Model_familyOf tl fm' g := by
  have hr := iv_rng P
  unfold m_State_familyBits m_State_familyBits_k4 m_Model_familyOf m_Model_familyOf_k4
  refine uy_sim (α := Int32 × Int32) (α' := Int32 × Int32) P.toInt.toNat (fun k a a' => a = a' ∧ a.2.toInt = (k : Int)) (fun x y => x = y) ?_ ⟨rfl, rfl⟩
  rintro k ⟨b, i⟩ a' hk ⟨rfl, hc⟩
  have hc : i.toInt = (k : Int) := hc
  have en := ct_n hc
  have E1 : m_State_familyBits_b4 P fm g b i = (if P ≤ i then .inr b else if fm i.toNatClampNeg = g then .inl (b ||| ((1 : Int32) <<< (i &&& 31)), i + 1) else .inl (b, i + 1)) := rfl
  have E2 : m_Model_familyOf_b4 tl fm' g b i = (if P ≤ i then .inr b else if fm' i.toNatClampNeg = g then .inl (b ||| ((1 : Int32) <<< (i &&& 31)), i + 1) else .inl (b ||| 0, i + 1)) := by rw [← h0]; rfl
  by_cases h1 : P ≤ i
  · exact Or.inr ⟨_, _, E1.trans (if_pos h1), E2.trans (if_pos h1), rfl⟩
  · have hl := ct_lt h1 hc
    have es : fm k = fm' k := hs k hl
    rw [en, es] at E1
    rw [en] at E2
    by_cases h2 : fm' k = g
    · exact Or.inl ⟨by omega, _, _, E1.trans ((if_neg h1).trans (if_pos h2)), E2.trans ((if_neg h1).trans (if_pos h2)), rfl, ct_s hc (by omega)⟩
    · exact Or.inl ⟨by omega, _, _, E1.trans ((if_neg h1).trans (if_neg h2)), E2.trans ((if_neg h1).trans (if_neg h2)), by rw [or0], ct_s hc (by omega)⟩
theorem q_mvu (hP : tl 1 = P) (hs : ∀ k : Nat, (k : Int) < P.toInt → se k = se' k) : ∀ k : Nat, (k : Int) < P.toInt → m_State_moveUp P se p g k = m_Model_seatAt tl se' p g k := by
  intro k hk
  have e := q_sit (g := g) hP hs
  have E1 : m_State_moveUp P se p g = (if m_State_sitterAt P se g = -1 then upd se p.toNatClampNeg g else upd (upd se (m_State_sitterAt P se g).toNatClampNeg (-1)) p.toNatClampNeg g) := rfl
  have E2 : m_Model_seatAt tl se' p g = (if m_Model_sitterOf tl se' g = -1 then upd se' p.toNatClampNeg g else upd (upd se' (m_Model_sitterOf tl se' g).toNatClampNeg (-1)) p.toNatClampNeg g) := rfl
  rw [E1, E2, e]
  by_cases h : m_Model_sitterOf tl se' g = -1
  · rw [if_pos h, if_pos h]
    by_cases q : k = p.toNatClampNeg
    · rw [q, pk_us, pk_us]
    · rw [pk_un q, pk_un q]; exact hs k hk
  · rw [if_neg h, if_neg h]
    by_cases q : k = p.toNatClampNeg
    · rw [q, pk_us, pk_us]
    · rw [pk_un q, pk_un q]
      by_cases q2 : k = (m_Model_sitterOf tl se' g).toNatClampNeg
      · rw [q2, pk_us, pk_us]
      · rw [pk_un q2, pk_un q2]; exact hs k hk
end UXZ
