/-! the place to which one is most like -/
section UXC1
variable {G P p g t q : Int32} {jw br st ag fm se tl jaw brow stn fc fh ag' fm' se' : Nat → Int32} {C : Nat → Prop}
theorem q_clo0 (hG : tl 0 = G) (h8 : G.toInt ≤ 8) (h0 : 0 ≤ G.toInt)
    (hu : ∀ (i : Int32) (k : Nat), i.toInt = (k : Int) → (k : Int) < G.toInt → m_State_unlikeness jw br (m_State_faceOf p) i = m_Model_unlikeOf jaw brow fc fh p i)
    (hc1 : ∀ (i : Int32) (k : Nat), i.toInt = (k : Int) → (k : Int) < G.toInt → ((t >>> (i &&& 31)) &&& 1 = 0 ↔ C k))
    (hc2 : ∀ (b i : Int32) (k : Nat), i.toInt = (k : Int) → (k : Int) < G.toInt → (C k → m_Model_mostLike_b5 tl jaw brow fc fh se' p q b i = m_Model_mostLike_k33 tl jaw brow fc fh se' p q b i) ∧ (¬ C k → m_Model_mostLike_b5 tl jaw brow fc fh se' p q b i = m_Model_mostLike_k57 tl jaw brow fc fh se' p q b i)) :
    m_State_closest G jw br p t = m_Model_mostLike tl jaw brow fc fh se' p q ∧ iv (m_Model_mostLike tl jaw brow fc fh se' p q) (-1) (G.toInt - 1) ∧ (m_Model_mostLike tl jaw brow fc fh se' p q = -1 ∨ ∃ z : Nat, (m_Model_mostLike tl jaw brow fc fh se' p q).toInt = (z : Int) ∧ (z : Int) < G.toInt ∧ C z) := by
  unfold m_State_closest m_State_closest_k8 m_Model_mostLike m_Model_mostLike_k5
  refine uy_sim (α := Int32 × Int32 × Int32) (α' := Int32 × Int32) G.toInt.toNat (fun k a a' => a.1 = a'.1 ∧ a.2.2 = a'.2 ∧ a'.2.toInt = (k : Int) ∧ iv a.1 (-1) (G.toInt - 1) ∧ (a.1 = -1 ∨ a.2.1 = m_Model_unlikeOf jaw brow fc fh p a.1) ∧ (a.1 = -1 ∨ ∃ z : Nat, a.1.toInt = (z : Int) ∧ (z : Int) < G.toInt ∧ C z)) (fun x y => x = y ∧ iv y (-1) (G.toInt - 1) ∧ (y = -1 ∨ ∃ z : Nat, y.toInt = (z : Int) ∧ (z : Int) < G.toInt ∧ C z)) ?_ ⟨rfl, rfl, rfl, ⟨by decide, by show (-1 : Int) ≤ _; omega⟩, Or.inl rfl, Or.inl rfl⟩
  rintro k ⟨w, l, i⟩ ⟨b, i'⟩ hk ⟨e1, e2, hc, hw, hl, hz⟩
  have e1 : w = b := e1
  have e2 : i = i' := e2
  have hc : i'.toInt = (k : Int) := hc
  have hw : iv w (-1) (G.toInt - 1) := hw
  have hl : w = -1 ∨ l = m_Model_unlikeOf jaw brow fc fh p w := hl
  have hz : w = -1 ∨ ∃ z : Nat, w.toInt = (z : Int) ∧ (z : Int) < G.toInt ∧ C z := hz
  subst e1; subst e2
  have hc : i.toInt = (k : Int) := hc
  have E1 : m_State_closest_b8 G jw br p t w l i = (if G ≤ i then .inr w else if (t >>> (i &&& 31)) &&& 1 = 0 then m_State_closest_k43 G jw br p t w l i (m_State_unlikeness jw br (m_State_faceOf p) i) 1 else m_State_closest_k43 G jw br p t w l i (m_State_unlikeness jw br (m_State_faceOf p) i) 0) := rfl
  by_cases h1 : G ≤ i
  · have E2 : m_Model_mostLike_b5 tl jaw brow fc fh se' p q w i = .inr w := by
      have : tl (0 : Int32).toNatClampNeg ≤ i := by show tl 0 ≤ i; rw [hG]; exact h1
      exact if_pos this
    exact Or.inr ⟨_, _, E1.trans (if_pos h1), E2, rfl, hw, hz⟩
  · have hlt := ct_lt h1 hc
    have hu' := hu i k hc hlt
    have hir : iv i (-1) (G.toInt - 1) := ⟨by omega, by omega⟩
    by_cases hC : C k
    · have E2 := (hc2 w i k hc hlt).1 hC
      have hb := (hc1 i k hc hlt).mpr hC
      have E1' := E1.trans ((if_neg h1).trans (if_pos hb))
      have K1 : m_State_closest_k43 G jw br p t w l i (m_State_unlikeness jw br (m_State_faceOf p) i) 1 = (if w = -1 then .inl (i, m_State_unlikeness jw br (m_State_faceOf p) i, i + 1) else if l ≤ m_State_unlikeness jw br (m_State_faceOf p) i then .inl (w, l, i + 1) else .inl (i, m_State_unlikeness jw br (m_State_faceOf p) i, i + 1)) := if_neg (by decide)
      have K2 : m_Model_mostLike_k33 tl jaw brow fc fh se' p q w i = (if w = -1 then .inl (i, i + 1) else if m_Model_unlikeOf jaw brow fc fh p w ≤ m_Model_unlikeOf jaw brow fc fh p i then .inl (w, i + 1) else .inl (i, i + 1)) := rfl
      by_cases h2 : w = -1
      · exact Or.inl ⟨by omega, _, _, E1'.trans (K1.trans (if_pos h2)), E2.trans (K2.trans (if_pos h2)), rfl, rfl, ct_s hc (by omega), hir, Or.inr hu', Or.inr ⟨k, hc, hlt, hC⟩⟩
      · have hl' := hl.resolve_left h2
        by_cases h3 : m_Model_unlikeOf jaw brow fc fh p w ≤ m_Model_unlikeOf jaw brow fc fh p i
        · exact Or.inl ⟨by omega, _, _, E1'.trans (K1.trans ((if_neg h2).trans (if_pos (by rw [hl', hu']; exact h3)))), E2.trans (K2.trans ((if_neg h2).trans (if_pos h3))), rfl, rfl, ct_s hc (by omega), hw, hl, hz⟩
        · exact Or.inl ⟨by omega, _, _, E1'.trans (K1.trans ((if_neg h2).trans (if_neg (by rw [hl', hu']; exact h3)))), E2.trans (K2.trans ((if_neg h2).trans (if_neg h3))), rfl, rfl, ct_s hc (by omega), hir, Or.inr hu', Or.inr ⟨k, hc, hlt, hC⟩⟩
    · have E2 := (hc2 w i k hc hlt).2 hC
      have hb : ¬ (t >>> (i &&& 31)) &&& 1 = 0 := fun z => hC ((hc1 i k hc hlt).mp z)
      have E1' := E1.trans ((if_neg h1).trans (if_neg hb))
      have K1 : m_State_closest_k43 G jw br p t w l i (m_State_unlikeness jw br (m_State_faceOf p) i) 0 = .inl (w, l, i + 1) := if_pos rfl
      have K2 : m_Model_mostLike_k57 tl jaw brow fc fh se' p q w i = .inl (w, i + 1) := rfl
      exact Or.inl ⟨by omega, _, _, E1'.trans K1, E2.trans K2, rfl, rfl, ct_s hc (by omega), hw, hl, hz⟩
theorem q_clo1 (hG : tl 0 = G) (hP : tl 1 = P) (h8 : G.toInt ≤ 8) (h0 : 0 ≤ G.toInt) (hP0 : 0 ≤ P.toInt) (hb : bs t (tkn se' P.toInt.toNat))
    (hu : ∀ (i : Int32) (k : Nat), i.toInt = (k : Int) → (k : Int) < G.toInt → m_State_unlikeness jw br (m_State_faceOf p) i = m_Model_unlikeOf jaw brow fc fh p i) :
    m_State_closest G jw br p t = m_Model_mostLike tl jaw brow fc fh se' p 1 ∧ iv (m_Model_mostLike tl jaw brow fc fh se' p 1) (-1) (G.toInt - 1) ∧ (m_Model_mostLike tl jaw brow fc fh se' p 1 = -1 ∨ ∃ z : Nat, (m_Model_mostLike tl jaw brow fc fh se' p 1).toInt = (z : Int) ∧ (z : Int) < G.toInt ∧ ¬ tkn se' P.toInt.toNat z) := by
  refine q_clo0 (C := fun k => ¬ tkn se' P.toInt.toNat k) hG h8 h0 hu (fun i k hi hk => (bs_is hb (by omega) hi).2) (fun b i k hi hk => ?_)
  have h1 : ¬ tl (0 : Int32).toNatClampNeg ≤ i := fun w => by
    have w : tl 0 ≤ i := w
    rw [hG] at w; have := le_i w; omega
  have E : m_Model_mostLike_b5 tl jaw brow fc fh se' p 1 b i = (if m_Model_sitterOf tl se' i = -1 then m_Model_mostLike_k33 tl jaw brow fc fh se' p 1 b i else m_Model_mostLike_k57 tl jaw brow fc fh se' p 1 b i) := (if_neg h1).trans (if_neg (by decide))
  have hs := q_sitN (se := se') hP hP0 hi
  exact ⟨fun w => E.trans (if_pos (hs.mpr w)), fun w => E.trans (if_neg (fun z => w (hs.mp z)))⟩
end UXC1
