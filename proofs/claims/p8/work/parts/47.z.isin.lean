/-! isIn, exactly -/
theorem isin_m {v a b : Int64} {r : Int32} (h : isInP v a b r) : r = uy_ii v a b := by
  obtain ⟨h1, h2, h3⟩ := h
  unfold uy_ii
  by_cases q : a.toInt ≤ v.toInt ∧ v.toInt ≤ b.toInt
  · rw [if_pos q]
    have n0 : ¬ r = 0 := fun w => by have := h3 w; omega
    refine Int32.toInt_inj.mp ?_
    have e0 : (0 : Int32).toInt = 0 := rfl
    have e1 : (1 : Int32).toInt = 1 := rfl
    have n1 : r.toInt ≠ (0 : Int32).toInt := fun w => n0 (Int32.toInt_inj.mp w)
    have := h1.1; have := h1.2
    omega
  · rw [if_neg q]
    exact Decidable.byContradiction (fun w => q (h2 w))
/-! loops side by side, one loop by what it keeps -/
section UXP0
variable {α β α' β' : Type}
theorem uy_sim {d : β} {d' : β'} {F : α → α ⊕ β} {G : α' → α' ⊕ β'} (n : Nat) (Rl : Nat → α → α' → Prop) (O : β → β' → Prop)
    (h : ∀ (k : Nat) (a : α) (a' : α'), k ≤ n → Rl k a a' → (k < n ∧ ∃ b b', F a = .inl b ∧ G a' = .inl b' ∧ Rl (k + 1) b b') ∨ (∃ o o', F a = .inr o ∧ G a' = .inr o' ∧ O o o'))
    {a : α} {a' : α'} (hr : Rl 0 a a') : O (uy_wh d F a) (uy_wh d' G a') := by
  have key : ∀ (m k : Nat) (a : α) (a' : α'), m + k = n → Rl k a a' → O (uy_wh d F a) (uy_wh d' G a') := by
    intro m
    induction m with
    | zero =>
      intro k a a' hk hr
      rcases h k a a' (by omega) hr with ⟨h1, -⟩ | ⟨o, o', e1, e2, e3⟩
      · omega
      · rw [uy_wh_r e1, uy_wh_r e2]; exact e3
    | succ m ih =>
      intro k a a' hk hr
      rcases h k a a' (by omega) hr with ⟨h1, b, b', e1, e2, e3⟩ | ⟨o, o', e1, e2, e3⟩
      · rw [uy_wh_l e1, uy_wh_l e2]; exact ih (k + 1) b b' (by omega) e3
      · rw [uy_wh_r e1, uy_wh_r e2]; exact e3
  exact key n 0 a a' (by omega) hr
theorem uy_inv {d : β} {F : α → α ⊕ β} (n : Nat) (J : Nat → α → Prop) (O : β → Prop)
    (h : ∀ (k : Nat) (a : α), k ≤ n → J k a → (k < n ∧ ∃ b, F a = .inl b ∧ J (k + 1) b) ∨ (∃ o, F a = .inr o ∧ O o))
    {a : α} (hr : J 0 a) : O (uy_wh d F a) := by
  have key : ∀ (m k : Nat) (a : α), m + k = n → J k a → O (uy_wh d F a) := by
    intro m
    induction m with
    | zero =>
      intro k a hk hr
      rcases h k a (by omega) hr with ⟨h1, -⟩ | ⟨o, e1, e3⟩
      · omega
      · rw [uy_wh_r e1]; exact e3
    | succ m ih =>
      intro k a hk hr
      rcases h k a (by omega) hr with ⟨h1, b, e1, e3⟩ | ⟨o, e1, e3⟩
      · rw [uy_wh_l e1]; exact ih (k + 1) b (by omega) e3
      · rw [uy_wh_r e1]; exact e3
  exact key n 0 a (by omega) hr
end UXP0
section UXP1
variable {i x y : Int32} {k n : Nat}
theorem ct_s (h : i.toInt = (k : Int)) (hk : (k : Int) < 2147483647) : (i + 1).toInt = ((k + 1 : Nat) : Int) := by
  have e : (1 : Int32).toInt = 1 := rfl
  rw [iv_tadd (by omega) (by omega)]; omega
theorem ct_n (h : i.toInt = (k : Int)) : i.toNatClampNeg = k := by
  show i.toInt.toNat = k; omega
theorem ct_8 (h : i.toInt = (k : Int)) (hk : k < 8) : ((8 : Int32) + i).toNatClampNeg = 8 + k := by
  have e : (8 : Int32).toInt = 8 := rfl
  show ((8 : Int32) + i).toInt.toNat = 8 + k
  rw [iv_tadd (by omega) (by omega)]; omega
theorem ct_ge (h : x ≤ i) (hi : i.toInt = (k : Int)) : x.toInt ≤ k := by have := le_i h; omega
theorem ct_lt (h : ¬ x ≤ i) (hi : i.toInt = (k : Int)) : (k : Int) < x.toInt := by have := nle_i h; omega
end UXP1
/-! a state of the class and one of the reference: alike -/
def sq_G (G : Int32) (jw br st jaw brow stn : Nat → Int32) : Prop := ∀ k : Nat, (k : Int) < G.toInt → jw k = jaw k ∧ br k = brow k ∧ st k = stn k
def sq_P (P : Int32) (jw br ag fm se fc fh ag' fm' se' : Nat → Int32) : Prop := ∀ k : Nat, (k : Int) < P.toInt → jw (8 + k) = fc k ∧ br (8 + k) = fh k ∧ ag k = ag' k ∧ fm k = fm' k ∧ se k = se' k
section UXP2
variable {G P g p : Int32} {jw br st ag fm se tl jaw brow stn fc fh ag' fm' se' : Nat → Int32}
theorem q_sit (hP : tl 1 = P) (hs : ∀ k : Nat, (k : Int) < P.toInt → se k = se' k) : m_State_sitterAt P se g = m_Model_sitterOf tl se' g := by
  have hr := iv_rng P
  unfold m_State_sitterAt m_State_sitterAt_k2 m_Model_sitterOf m_Model_sitterOf_k2
  refine uy_sim P.toInt.toNat (fun k a a' => a = a' ∧ a.toInt = (k : Int)) (fun x y => x = y) ?_ ⟨rfl, rfl⟩
  rintro k a a' hk ⟨rfl, hc⟩
  have E1 : m_State_sitterAt_b2 P se g a = (if P ≤ a then .inr (-1) else if se a.toNatClampNeg = g then .inr a else .inl (a + 1)) := rfl
  have E2 : m_Model_sitterOf_b2 tl se' g a = (if P ≤ a then .inr (-1) else if se' a.toNatClampNeg = g then .inr a else .inl (a + 1)) := by rw [← hP]; rfl
  by_cases h1 : P ≤ a
  · exact Or.inr ⟨_, _, E1.trans (if_pos h1), E2.trans (if_pos h1), rfl⟩
  · have hl := ct_lt h1 hc
    have es : se a.toNatClampNeg = se' a.toNatClampNeg := by rw [ct_n hc]; exact hs k hl
    by_cases h2 : se a.toNatClampNeg = g
    · exact Or.inr ⟨_, _, E1.trans ((if_neg h1).trans (if_pos h2)), E2.trans ((if_neg h1).trans (if_pos (es ▸ h2))), rfl⟩
    · exact Or.inl ⟨by omega, _, _, E1.trans ((if_neg h1).trans (if_neg h2)), E2.trans ((if_neg h1).trans (if_neg (es ▸ h2))), rfl, ct_s hc (by omega)⟩
theorem q_unl {i j : Nat} (hg : sq_G G jw br st jaw brow stn) (hp : sq_P P jw br ag fm se fc fh ag' fm' se') (hi : p.toInt = (i : Int)) (hj : g.toInt = (j : Int)) (hiP : (i : Int) < P.toInt) (hjG : (j : Int) < G.toInt) (h8 : P.toInt ≤ 8) : m_State_unlikeness jw br (m_State_faceOf p) g = m_Model_unlikeOf jaw brow fc fh p g := by
  have e1 := ct_n hi
  have e2 := ct_n hj
  have e3 := ct_8 hi (by omega)
  have q1 := hg j hjG
  have q2 := hp i hiP
  have E1 : m_State_unlikeness jw br (m_State_faceOf p) g = (if 0 ≤ jw ((8 : Int32) + p).toNatClampNeg - jw g.toNatClampNeg then jw ((8 : Int32) + p).toNatClampNeg - jw g.toNatClampNeg else 0 - (jw ((8 : Int32) + p).toNatClampNeg - jw g.toNatClampNeg)) + (if 0 ≤ br ((8 : Int32) + p).toNatClampNeg - br g.toNatClampNeg then br ((8 : Int32) + p).toNatClampNeg - br g.toNatClampNeg else 0 - (br ((8 : Int32) + p).toNatClampNeg - br g.toNatClampNeg)) := rfl
  have E2 : m_Model_unlikeOf jaw brow fc fh p g = (if 0 ≤ fc p.toNatClampNeg - jaw g.toNatClampNeg then fc p.toNatClampNeg - jaw g.toNatClampNeg else 0 - (fc p.toNatClampNeg - jaw g.toNatClampNeg)) + (if 0 ≤ fh p.toNatClampNeg - brow g.toNatClampNeg then fh p.toNatClampNeg - brow g.toNatClampNeg else 0 - (fh p.toNatClampNeg - brow g.toNatClampNeg)) := rfl
  rw [E1, E2, e1, e2, e3, q2.1, q2.2.1, q1.1, q1.2.1]
end UXP2
/-! rows of states: what is laid, what is taken -/
theorem ct_p {i c : Int32} {k n : Nat} (h : i.toInt = (k : Int)) (hc : c.toInt = (n : Int)) (hk : k + n < 2147483647) : (i + c).toNatClampNeg = k + n ∧ (i + c).toInt = ((k + n : Nat) : Int) := by
  have e : (i + c).toInt = ((k + n : Nat) : Int) := by rw [iv_tadd (by omega) (by omega)]; omega
  exact ⟨by show (i + c).toInt.toNat = k + n; omega, e⟩
/-- a row of the reference's, from b on -/
def rwM (R : Nat → Int32) (b : Nat) (yr : Int32) (jaw brow stn fc fh ag fm se : Nat → Int32) : Prop := R b = yr ∧ (∀ k : Nat, k < 8 → R (b + 1 + 3 * k) = jaw k ∧ R (b + 2 + 3 * k) = brow k ∧ R (b + 3 + 3 * k) = stn k) ∧ ∀ k : Nat, k < 8 → R (b + 25 + 5 * k) = fc k ∧ R (b + 26 + 5 * k) = fh k ∧ R (b + 27 + 5 * k) = ag k ∧ R (b + 28 + 5 * k) = fm k ∧ R (b + 29 + 5 * k) = se k
/-- a row of the class's, from b on -/
def rwG (R : Nat → Int32) (b : Nat) (yr : Int32) (jw br st ag fm se : Nat → Int32) : Prop := (∀ k : Nat, k < 16 → R (b + k) = jw k ∧ R (b + 16 + k) = br k) ∧ (∀ k : Nat, k < 8 → R (b + 32 + k) = st k ∧ R (b + 40 + k) = ag k ∧ R (b + 48 + k) = fm k ∧ R (b + 56 + k) = se k) ∧ R (b + 64) = yr
section UXP11
variable {yr p2 : Int32} {jaw brow stn fc fh ag fm se into f jw br st rows jaw0 brow0 stn0 fc0 fh0 ag0 fm0 se0 : Nat → Int32} {b : Nat}
theorem q_wrG (hb : p2.toInt = (b : Int)) (hl : b + 65 ≤ 2600) : rwG (m_State_writeTo yr jw br st ag fm se rows p2) b yr jw br st ag fm se ∧ ∀ j : Nat, j < b ∨ b + 65 ≤ j → m_State_writeTo yr jw br st ag fm se rows p2 j = rows j := by
  have c0 : p2.toNatClampNeg = b := ct_n hb
  have c1 := (ct_p (c := (16 : Int32)) (n := 16) hb rfl (by omega)).1
  have c2 := (ct_p (c := (32 : Int32)) (n := 32) hb rfl (by omega)).1
  have c3 := (ct_p (c := (40 : Int32)) (n := 40) hb rfl (by omega)).1
  have c4 := (ct_p (c := (48 : Int32)) (n := 48) hb rfl (by omega)).1
  have c5 := (ct_p (c := (56 : Int32)) (n := 56) hb rfl (by omega)).1
  have c6 := (ct_p (c := (64 : Int32)) (n := 64) hb rfl (by omega)).1
  have E : m_State_writeTo yr jw br st ag fm se rows p2 = upd (va_cpy se (va_cpy fm (va_cpy ag (va_cpy st (va_cpy br (va_cpy jw rows 0 p2.toNatClampNeg 16) 0 (p2 + 16).toNatClampNeg 16) 0 (p2 + 32).toNatClampNeg 8) 0 (p2 + 40).toNatClampNeg 8) 0 (p2 + 48).toNatClampNeg 8) 0 (p2 + 56).toNatClampNeg 8) (p2 + 64).toNatClampNeg yr := rfl
  rw [E, c0, c1, c2, c3, c4, c5, c6]
  refine ⟨⟨fun k hk => ⟨?_, ?_⟩, fun k hk => ⟨?_, ?_, ?_, ?_⟩, pk_us⟩, fun j hj => ?_⟩
  · rw [pk_un (by omega), pk_cpy_out (by omega), pk_cpy_out (by omega), pk_cpy_out (by omega), pk_cpy_out (by omega), pk_cpy_out (by omega), pk_cpy_in (by omega) (by omega)]; congr 1; omega
  · rw [pk_un (by omega), pk_cpy_out (by omega), pk_cpy_out (by omega), pk_cpy_out (by omega), pk_cpy_out (by omega), pk_cpy_in (by omega) (by omega)]; congr 1; omega
  · rw [pk_un (by omega), pk_cpy_out (by omega), pk_cpy_out (by omega), pk_cpy_out (by omega), pk_cpy_in (by omega) (by omega)]; congr 1; omega
  · rw [pk_un (by omega), pk_cpy_out (by omega), pk_cpy_out (by omega), pk_cpy_in (by omega) (by omega)]; congr 1; omega
  · rw [pk_un (by omega), pk_cpy_out (by omega), pk_cpy_in (by omega) (by omega)]; congr 1; omega
  · rw [pk_un (by omega), pk_cpy_in (by omega) (by omega)]; congr 1; omega
  · rw [pk_un (by omega), pk_cpy_out (by omega), pk_cpy_out (by omega), pk_cpy_out (by omega), pk_cpy_out (by omega), pk_cpy_out (by omega), pk_cpy_out (by omega)]
theorem q_rdG (hb : p2.toInt = (b : Int)) (hl : b + 65 ≤ 2600) : ∃ jw' br' st' ag' fm' se' : Nat → Int32, m_State_readFrom jw br st ag fm se rows p2 = (jw', br', st', ag', fm', se', rows (b + 64)) ∧ rwG rows b (rows (b + 64)) jw' br' st' ag' fm' se' := by
  have c0 : p2.toNatClampNeg = b := ct_n hb
  have c1 := (ct_p (c := (16 : Int32)) (n := 16) hb rfl (by omega)).1
  have c2 := (ct_p (c := (32 : Int32)) (n := 32) hb rfl (by omega)).1
  have c3 := (ct_p (c := (40 : Int32)) (n := 40) hb rfl (by omega)).1
  have c4 := (ct_p (c := (48 : Int32)) (n := 48) hb rfl (by omega)).1
  have c5 := (ct_p (c := (56 : Int32)) (n := 56) hb rfl (by omega)).1
  have c6 := (ct_p (c := (64 : Int32)) (n := 64) hb rfl (by omega)).1
  have E : m_State_readFrom jw br st ag fm se rows p2 = (va_cpy rows jw p2.toNatClampNeg 0 16, va_cpy rows br (p2 + 16).toNatClampNeg 0 16, va_cpy rows st (p2 + 32).toNatClampNeg 0 8, va_cpy rows ag (p2 + 40).toNatClampNeg 0 8, va_cpy rows fm (p2 + 48).toNatClampNeg 0 8, va_cpy rows se (p2 + 56).toNatClampNeg 0 8, rows (p2 + 64).toNatClampNeg) := rfl
  rw [E, c0, c1, c2, c3, c4, c5, c6]
  refine ⟨_, _, _, _, _, _, rfl, fun k hk => ⟨?_, ?_⟩, fun k hk => ⟨?_, ?_, ?_, ?_⟩, rfl⟩
  all_goals (rw [pk_cpy_in (by omega) (by omega)]; congr 1)
theorem q_pkP65 (hb : p2.toInt = (b : Int)) (hl : b + 65 ≤ 2600) (x : Int32) (hx : x.toInt = ((b + 25 : Nat) : Int)) (g : Nat → Int32) (h0 : g b = yr) (h1 : ∀ k : Nat, k < 8 → g (b + 1 + 3 * k) = jaw k ∧ g (b + 2 + 3 * k) = brow k ∧ g (b + 3 + 3 * k) = stn k) (h2 : ∀ j : Nat, j < b ∨ b + 65 ≤ j → g j = into j) :
    rwM (m_Model_pack65_k67 yr jaw brow stn fc fh ag fm se into p2 (x, 0, g)) b yr jaw brow stn fc fh ag fm se ∧ ∀ j : Nat, j < b ∨ b + 65 ≤ j → m_Model_pack65_k67 yr jaw brow stn fc fh ag fm se into p2 (x, 0, g) j = into j := by
  unfold m_Model_pack65_k67
  refine uy_inv (α := Int32 × Int32 × (Nat → Int32)) 8 (fun k a => a.1.toInt = ((b + 25 + 5 * k : Nat) : Int) ∧ a.2.1.toInt = (k : Int) ∧ a.2.2 b = yr ∧ (∀ k : Nat, k < 8 → a.2.2 (b + 1 + 3 * k) = jaw k ∧ a.2.2 (b + 2 + 3 * k) = brow k ∧ a.2.2 (b + 3 + 3 * k) = stn k) ∧ (∀ j : Nat, j < b ∨ b + 65 ≤ j → a.2.2 j = into j) ∧ ∀ j : Nat, j < k → a.2.2 (b + 25 + 5 * j) = fc j ∧ a.2.2 (b + 26 + 5 * j) = fh j ∧ a.2.2 (b + 27 + 5 * j) = ag j ∧ a.2.2 (b + 28 + 5 * j) = fm j ∧ a.2.2 (b + 29 + 5 * j) = se j) (fun R => rwM R b yr jaw brow stn fc fh ag fm se ∧ ∀ j : Nat, j < b ∨ b + 65 ≤ j → R j = into j) ?_ ⟨hx, rfl, h0, h1, h2, fun j hj => absurd hj (Nat.not_lt_zero j)⟩
  rintro k ⟨x, i, g⟩ hk ⟨hx, hi, h0, h1, h2, h3⟩
  have hx : x.toInt = ((b + 25 + 5 * k : Nat) : Int) := hx
  have hi : i.toInt = (k : Int) := hi
  have E : m_Model_pack65_b67 yr jaw brow stn fc fh ag fm se into p2 x i g = (if (8 : Int32) ≤ i then .inr g else .inl (x + 5, i + 1, upd (upd (upd (upd (upd g x.toNatClampNeg (fc i.toNatClampNeg)) (x + 1).toNatClampNeg (fh i.toNatClampNeg)) (x + 2).toNatClampNeg (ag i.toNatClampNeg)) (x + 3).toNatClampNeg (fm i.toNatClampNeg)) (x + 4).toNatClampNeg (se i.toNatClampNeg))) := rfl
  have e8 : (8 : Int32).toInt = 8 := rfl
  by_cases h : (8 : Int32) ≤ i
  · have := ct_ge h hi
    exact Or.inr ⟨g, E.trans (if_pos h), ⟨h0, h1, fun j hj => h3 j (by omega)⟩, h2⟩
  · have hl' := ct_lt h hi
    have c0 : x.toNatClampNeg = b + 25 + 5 * k := ct_n hx
    have c1 := (ct_p (c := (1 : Int32)) (n := 1) hx rfl (by omega)).1
    have c2 := (ct_p (c := (2 : Int32)) (n := 2) hx rfl (by omega)).1
    have c3 := (ct_p (c := (3 : Int32)) (n := 3) hx rfl (by omega)).1
    have c4 := (ct_p (c := (4 : Int32)) (n := 4) hx rfl (by omega)).1
    have c5 := (ct_p (c := (5 : Int32)) (n := 5) hx rfl (by omega)).2
    rw [ct_n hi, c0, c1, c2, c3, c4] at E
    refine Or.inl ⟨by omega, _, E.trans (if_neg h), by show (x + 5).toInt = _; rw [c5]; omega, ct_s hi (by omega), ?_, fun j hj => ⟨?_, ?_, ?_⟩, fun j hj => ?_, fun j hj => ?_⟩
    · show upd _ _ _ b = yr
      rw [pk_un (by omega), pk_un (by omega), pk_un (by omega), pk_un (by omega), pk_un (by omega)]; exact h0
    · show upd _ _ _ _ = jaw j
      rw [pk_un (by omega), pk_un (by omega), pk_un (by omega), pk_un (by omega), pk_un (by omega)]; exact (h1 j hj).1
    · show upd _ _ _ _ = brow j
      rw [pk_un (by omega), pk_un (by omega), pk_un (by omega), pk_un (by omega), pk_un (by omega)]; exact (h1 j hj).2.1
    · show upd _ _ _ _ = stn j
      rw [pk_un (by omega), pk_un (by omega), pk_un (by omega), pk_un (by omega), pk_un (by omega)]; exact (h1 j hj).2.2
    · show upd _ _ _ j = into j
      rw [pk_un (by omega), pk_un (by omega), pk_un (by omega), pk_un (by omega), pk_un (by omega)]; exact h2 j hj
    · by_cases q : j = k
      · rw [q]
        refine ⟨?_, ?_, ?_, ?_, ?_⟩
        · show upd _ _ _ _ = fc k
          rw [pk_un (by omega), pk_un (by omega), pk_un (by omega), pk_un (by omega), pk_us]
        · show upd _ _ _ _ = fh k
          rw [pk_un (by omega), pk_un (by omega), pk_un (by omega), show b + 26 + 5 * k = b + 25 + 5 * k + 1 by omega, pk_us]
        · show upd _ _ _ _ = ag k
          rw [pk_un (by omega), pk_un (by omega), show b + 27 + 5 * k = b + 25 + 5 * k + 2 by omega, pk_us]
        · show upd _ _ _ _ = fm k
          rw [pk_un (by omega), show b + 28 + 5 * k = b + 25 + 5 * k + 3 by omega, pk_us]
        · show upd _ _ _ _ = se k
          rw [show b + 29 + 5 * k = b + 25 + 5 * k + 4 by omega, pk_us]
      · have q3 := h3 j (by omega)
        refine ⟨?_, ?_, ?_, ?_, ?_⟩
        · show upd _ _ _ _ = fc j
          rw [pk_un (by omega), pk_un (by omega), pk_un (by omega), pk_un (by omega), pk_un (by omega)]; exact q3.1
        · show upd _ _ _ _ = fh j
          rw [pk_un (by omega), pk_un (by omega), pk_un (by omega), pk_un (by omega), pk_un (by omega)]; exact q3.2.1
        · show upd _ _ _ _ = ag j
          rw [pk_un (by omega), pk_un (by omega), pk_un (by omega), pk_un (by omega), pk_un (by omega)]; exact q3.2.2.1
        · show upd _ _ _ _ = fm j
          rw [pk_un (by omega), pk_un (by omega), pk_un (by omega), pk_un (by omega), pk_un (by omega)]; exact q3.2.2.2.1
        · show upd _ _ _ _ = se j
          rw [pk_un (by omega), pk_un (by omega), pk_un (by omega), pk_un (by omega), pk_un (by omega)]; exact q3.2.2.2.2
theorem q_pk65 (hb : p2.toInt = (b : Int)) (hl : b + 65 ≤ 2600) : rwM (m_Model_pack65 yr jaw brow stn fc fh ag fm se into p2) b yr jaw brow stn fc fh ag fm se ∧ ∀ j : Nat, j < b ∨ b + 65 ≤ j → m_Model_pack65 yr jaw brow stn fc fh ag fm se into p2 j = into j := by
  have c0 : p2.toNatClampNeg = b := ct_n hb
  have c1 := (ct_p (c := (1 : Int32)) (n := 1) hb rfl (by omega)).2
  have E0 : m_Model_pack65 yr jaw brow stn fc fh ag fm se into p2 = m_Model_pack65_k14 yr jaw brow stn fc fh ag fm se into p2 (p2 + 1, 0, upd into p2.toNatClampNeg yr) := rfl
  rw [E0, c0]
  unfold m_Model_pack65_k14
  refine uy_inv (α := Int32 × Int32 × (Nat → Int32)) 8 (fun k a => a.1.toInt = ((b + 1 + 3 * k : Nat) : Int) ∧ a.2.1.toInt = (k : Int) ∧ a.2.2 b = yr ∧ (∀ j : Nat, j < k → a.2.2 (b + 1 + 3 * j) = jaw j ∧ a.2.2 (b + 2 + 3 * j) = brow j ∧ a.2.2 (b + 3 + 3 * j) = stn j) ∧ (∀ j : Nat, j < b ∨ b + 65 ≤ j → a.2.2 j = into j)) (fun R => rwM R b yr jaw brow stn fc fh ag fm se ∧ ∀ j : Nat, j < b ∨ b + 65 ≤ j → R j = into j) ?_ ⟨c1, rfl, pk_us, fun j hj => absurd hj (Nat.not_lt_zero j), fun j hj => pk_un (by omega)⟩
  rintro k ⟨x, i, g⟩ hk ⟨hx, hi, h0, h1, h2⟩
  have hx : x.toInt = ((b + 1 + 3 * k : Nat) : Int) := hx
  have hi : i.toInt = (k : Int) := hi
  have E : m_Model_pack65_b14 yr jaw brow stn fc fh ag fm se into p2 x i g = (if (8 : Int32) ≤ i then .inr (m_Model_pack65_k67 yr jaw brow stn fc fh ag fm se into p2 (x, 0, g)) else .inl (x + 3, i + 1, upd (upd (upd g x.toNatClampNeg (jaw i.toNatClampNeg)) (x + 1).toNatClampNeg (brow i.toNatClampNeg)) (x + 2).toNatClampNeg (stn i.toNatClampNeg))) := rfl
  have e8 : (8 : Int32).toInt = 8 := rfl
  by_cases h : (8 : Int32) ≤ i
  · have := ct_ge h hi
    exact Or.inr ⟨_, E.trans (if_pos h), q_pkP65 hb hl x (by rw [hx]; congr 1; omega) g h0 (fun j hj => h1 j (by omega)) h2⟩
  · have hl' := ct_lt h hi
    have c0 : x.toNatClampNeg = b + 1 + 3 * k := ct_n hx
    have c1 := (ct_p (c := (1 : Int32)) (n := 1) hx rfl (by omega)).1
    have c2 := (ct_p (c := (2 : Int32)) (n := 2) hx rfl (by omega)).1
    have c3 := (ct_p (c := (3 : Int32)) (n := 3) hx rfl (by omega)).2
    rw [ct_n hi, c0, c1, c2] at E
    refine Or.inl ⟨by omega, _, E.trans (if_neg h), by show (x + 3).toInt = _; rw [c3]; omega, ct_s hi (by omega), ?_, fun j hj => ?_, fun j hj => ?_⟩
    · show upd _ _ _ b = yr
      rw [pk_un (by omega), pk_un (by omega), pk_un (by omega)]; exact h0
    · by_cases q : j = k
      · rw [q]
        refine ⟨?_, ?_, ?_⟩
        · show upd _ _ _ _ = jaw k
          rw [pk_un (by omega), pk_un (by omega), pk_us]
        · show upd _ _ _ _ = brow k
          rw [pk_un (by omega), show b + 2 + 3 * k = b + 1 + 3 * k + 1 by omega, pk_us]
        · show upd _ _ _ _ = stn k
          rw [show b + 3 + 3 * k = b + 1 + 3 * k + 2 by omega, pk_us]
      · have q3 := h1 j (by omega)
        refine ⟨?_, ?_, ?_⟩
        · show upd _ _ _ _ = jaw j
          rw [pk_un (by omega), pk_un (by omega), pk_un (by omega)]; exact q3.1
        · show upd _ _ _ _ = brow j
          rw [pk_un (by omega), pk_un (by omega), pk_un (by omega)]; exact q3.2.1
        · show upd _ _ _ _ = stn j
          rw [pk_un (by omega), pk_un (by omega), pk_un (by omega)]; exact q3.2.2
    · show upd _ _ _ j = into j
      rw [pk_un (by omega), pk_un (by omega), pk_un (by omega)]; exact h2 j hj
theorem q_upP65 (hb : p2.toInt = (b : Int)) (hl : b + 65 ≤ 2600) (x : Int32) (hx : x.toInt = ((b + 25 : Nat) : Int)) (jaw brow stn fc1 fh1 ag1 fm1 se1 : Nat → Int32) (h1 : ∀ k : Nat, k < 8 → f (b + 1 + 3 * k) = jaw k ∧ f (b + 2 + 3 * k) = brow k ∧ f (b + 3 + 3 * k) = stn k) :
    (fun R => ∃ jaw fc fh ag fm se brow stn : Nat → Int32, R = (yr, jaw, brow, stn, fc, fh, ag, fm, se) ∧ (∀ k : Nat, k < 8 → f (b + 1 + 3 * k) = jaw k ∧ f (b + 2 + 3 * k) = brow k ∧ f (b + 3 + 3 * k) = stn k) ∧ ∀ k : Nat, k < 8 → f (b + 25 + 5 * k) = fc k ∧ f (b + 26 + 5 * k) = fh k ∧ f (b + 27 + 5 * k) = ag k ∧ f (b + 28 + 5 * k) = fm k ∧ f (b + 29 + 5 * k) = se k) (m_Model_unpack65_k67 jaw0 brow0 stn0 fc0 fh0 ag0 fm0 se0 f p2 (yr, x, 0, jaw, brow, stn, fc1, fh1, ag1, fm1, se1)) := by
  have Z := uy_inv (α := Int32 × Int32 × Int32 × (Nat → Int32) × (Nat → Int32) × (Nat → Int32) × (Nat → Int32) × (Nat → Int32) × (Nat → Int32) × (Nat → Int32) × (Nat → Int32)) (d := (0, fun _ => 0, fun _ => 0, fun _ => 0, fun _ => 0, fun _ => 0, fun _ => 0, fun _ => 0, fun _ => 0)) (F := fun v => m_Model_unpack65_b67 jaw0 brow0 stn0 fc0 fh0 ag0 fm0 se0 f p2 v.1 v.2.1 v.2.2.1 v.2.2.2.1 v.2.2.2.2.1 v.2.2.2.2.2.1 v.2.2.2.2.2.2.1 v.2.2.2.2.2.2.2.1 v.2.2.2.2.2.2.2.2.1 v.2.2.2.2.2.2.2.2.2.1 v.2.2.2.2.2.2.2.2.2.2) 8 (fun k a => ∃ (x i : Int32) (fc fh ag fm se : Nat → Int32), a = (yr, x, i, jaw, brow, stn, fc, fh, ag, fm, se) ∧ x.toInt = ((b + 25 + 5 * k : Nat) : Int) ∧ i.toInt = (k : Int) ∧ ∀ j : Nat, j < k → f (b + 25 + 5 * j) = fc j ∧ f (b + 26 + 5 * j) = fh j ∧ f (b + 27 + 5 * j) = ag j ∧ f (b + 28 + 5 * j) = fm j ∧ f (b + 29 + 5 * j) = se j) (fun R => ∃ jaw fc fh ag fm se brow stn : Nat → Int32, R = (yr, jaw, brow, stn, fc, fh, ag, fm, se) ∧ (∀ k : Nat, k < 8 → f (b + 1 + 3 * k) = jaw k ∧ f (b + 2 + 3 * k) = brow k ∧ f (b + 3 + 3 * k) = stn k) ∧ ∀ k : Nat, k < 8 → f (b + 25 + 5 * k) = fc k ∧ f (b + 26 + 5 * k) = fh k ∧ f (b + 27 + 5 * k) = ag k ∧ f (b + 28 + 5 * k) = fm k ∧ f (b + 29 + 5 * k) = se k) ?_ (a := (yr, x, 0, jaw, brow, stn, fc1, fh1, ag1, fm1, se1)) ⟨x, 0, fc1, fh1, ag1, fm1, se1, rfl, hx, rfl, fun j hj => absurd hj (Nat.not_lt_zero j)⟩
  · exact Z
  · rintro k _ hk ⟨x, i, fc, fh, ag, fm, se, rfl, hx, hi, h3⟩
    have E : m_Model_unpack65_b67 jaw0 brow0 stn0 fc0 fh0 ag0 fm0 se0 f p2 yr x i jaw brow stn fc fh ag fm se = (if (8 : Int32) ≤ i then .inr (yr, jaw, brow, stn, fc, fh, ag, fm, se) else .inl (yr, x + 5, i + 1, jaw, brow, stn, upd fc i.toNatClampNeg (f x.toNatClampNeg), upd fh i.toNatClampNeg (f (x + 1).toNatClampNeg), upd ag i.toNatClampNeg (f (x + 2).toNatClampNeg), upd fm i.toNatClampNeg (f (x + 3).toNatClampNeg), upd se i.toNatClampNeg (f (x + 4).toNatClampNeg))) := rfl
    have e8 : (8 : Int32).toInt = 8 := rfl
    by_cases h : (8 : Int32) ≤ i
    · have := ct_ge h hi
      exact Or.inr ⟨_, E.trans (if_pos h), jaw, fc, fh, ag, fm, se, brow, stn, rfl, h1, fun j hj => h3 j (by omega)⟩
    · have hl' := ct_lt h hi
      have c0 : x.toNatClampNeg = b + 25 + 5 * k := ct_n hx
      have c1 := (ct_p (c := (1 : Int32)) (n := 1) hx rfl (by omega)).1
      have c2 := (ct_p (c := (2 : Int32)) (n := 2) hx rfl (by omega)).1
      have c3 := (ct_p (c := (3 : Int32)) (n := 3) hx rfl (by omega)).1
      have c4 := (ct_p (c := (4 : Int32)) (n := 4) hx rfl (by omega)).1
      have c5 := (ct_p (c := (5 : Int32)) (n := 5) hx rfl (by omega)).2
      rw [ct_n hi, c0, c1, c2, c3, c4] at E
      refine Or.inl ⟨by omega, _, E.trans (if_neg h), x + 5, i + 1, _, _, _, _, _, rfl, by rw [c5]; omega, ct_s hi (by omega), fun j hj => ?_⟩
      by_cases q : j = k
      · rw [q, pk_us, pk_us, pk_us, pk_us, pk_us]
        exact ⟨rfl, by congr 1; omega, by congr 1; omega, by congr 1; omega, by congr 1; omega⟩
      · rw [pk_un q, pk_un q, pk_un q, pk_un q, pk_un q]; exact h3 j (by omega)
theorem q_up65 (hb : p2.toInt = (b : Int)) (hl : b + 65 ≤ 2600) : ∃ jaw brow stn fc fh ag fm se : Nat → Int32, m_Model_unpack65 jaw0 brow0 stn0 fc0 fh0 ag0 fm0 se0 f p2 = (f b, jaw, brow, stn, fc, fh, ag, fm, se) ∧ rwM f b (f b) jaw brow stn fc fh ag fm se := by
  have c0 : p2.toNatClampNeg = b := ct_n hb
  have c1 := (ct_p (c := (1 : Int32)) (n := 1) hb rfl (by omega)).2
  have E0 : m_Model_unpack65 jaw0 brow0 stn0 fc0 fh0 ag0 fm0 se0 f p2 = m_Model_unpack65_k14 jaw0 brow0 stn0 fc0 fh0 ag0 fm0 se0 f p2 (f p2.toNatClampNeg, p2 + 1, 0, jaw0, brow0, stn0, fc0, fh0, ag0, fm0, se0) := rfl
  rw [E0, c0]
  have key : (fun R => ∃ jaw fc fh ag fm se brow stn : Nat → Int32, R = (f b, jaw, brow, stn, fc, fh, ag, fm, se) ∧ (∀ k : Nat, k < 8 → f (b + 1 + 3 * k) = jaw k ∧ f (b + 2 + 3 * k) = brow k ∧ f (b + 3 + 3 * k) = stn k) ∧ ∀ k : Nat, k < 8 → f (b + 25 + 5 * k) = fc k ∧ f (b + 26 + 5 * k) = fh k ∧ f (b + 27 + 5 * k) = ag k ∧ f (b + 28 + 5 * k) = fm k ∧ f (b + 29 + 5 * k) = se k) (m_Model_unpack65_k14 jaw0 brow0 stn0 fc0 fh0 ag0 fm0 se0 f p2 (f b, p2 + 1, 0, jaw0, brow0, stn0, fc0, fh0, ag0, fm0, se0)) := by
    have Z := uy_inv (α := Int32 × Int32 × Int32 × (Nat → Int32) × (Nat → Int32) × (Nat → Int32) × (Nat → Int32) × (Nat → Int32) × (Nat → Int32) × (Nat → Int32) × (Nat → Int32)) (d := (0, fun _ => 0, fun _ => 0, fun _ => 0, fun _ => 0, fun _ => 0, fun _ => 0, fun _ => 0, fun _ => 0)) (F := fun v => m_Model_unpack65_b14 jaw0 brow0 stn0 fc0 fh0 ag0 fm0 se0 f p2 v.1 v.2.1 v.2.2.1 v.2.2.2.1 v.2.2.2.2.1 v.2.2.2.2.2.1 v.2.2.2.2.2.2.1 v.2.2.2.2.2.2.2.1 v.2.2.2.2.2.2.2.2.1 v.2.2.2.2.2.2.2.2.2.1 v.2.2.2.2.2.2.2.2.2.2) 8 (fun k a => ∃ (x i : Int32) (jaw brow stn : Nat → Int32), a = (f b, x, i, jaw, brow, stn, fc0, fh0, ag0, fm0, se0) ∧ x.toInt = ((b + 1 + 3 * k : Nat) : Int) ∧ i.toInt = (k : Int) ∧ ∀ j : Nat, j < k → f (b + 1 + 3 * j) = jaw j ∧ f (b + 2 + 3 * j) = brow j ∧ f (b + 3 + 3 * j) = stn j) (fun R => ∃ jaw fc fh ag fm se brow stn : Nat → Int32, R = (f b, jaw, brow, stn, fc, fh, ag, fm, se) ∧ (∀ k : Nat, k < 8 → f (b + 1 + 3 * k) = jaw k ∧ f (b + 2 + 3 * k) = brow k ∧ f (b + 3 + 3 * k) = stn k) ∧ ∀ k : Nat, k < 8 → f (b + 25 + 5 * k) = fc k ∧ f (b + 26 + 5 * k) = fh k ∧ f (b + 27 + 5 * k) = ag k ∧ f (b + 28 + 5 * k) = fm k ∧ f (b + 29 + 5 * k) = se k) ?_ (a := (f b, p2 + 1, 0, jaw0, brow0, stn0, fc0, fh0, ag0, fm0, se0)) ⟨p2 + 1, 0, jaw0, brow0, stn0, rfl, c1, rfl, fun j hj => absurd hj (Nat.not_lt_zero j)⟩
    · exact Z
    · rintro k _ hk ⟨x, i, jaw, brow, stn, rfl, hx, hi, h3⟩
      have E : m_Model_unpack65_b14 jaw0 brow0 stn0 fc0 fh0 ag0 fm0 se0 f p2 (f b) x i jaw brow stn fc0 fh0 ag0 fm0 se0 = (if (8 : Int32) ≤ i then .inr (m_Model_unpack65_k67 jaw0 brow0 stn0 fc0 fh0 ag0 fm0 se0 f p2 (f b, x, 0, jaw, brow, stn, fc0, fh0, ag0, fm0, se0)) else .inl (f b, x + 3, i + 1, upd jaw i.toNatClampNeg (f x.toNatClampNeg), upd brow i.toNatClampNeg (f (x + 1).toNatClampNeg), upd stn i.toNatClampNeg (f (x + 2).toNatClampNeg), fc0, fh0, ag0, fm0, se0)) := rfl
      have e8 : (8 : Int32).toInt = 8 := rfl
      by_cases h : (8 : Int32) ≤ i
      · have := ct_ge h hi
        exact Or.inr ⟨_, E.trans (if_pos h), q_upP65 hb hl x (by rw [hx]; congr 1; omega) jaw brow stn fc0 fh0 ag0 fm0 se0 (fun j hj => h3 j (by omega))⟩
      · have hl' := ct_lt h hi
        have c0 : x.toNatClampNeg = b + 1 + 3 * k := ct_n hx
        have c1 := (ct_p (c := (1 : Int32)) (n := 1) hx rfl (by omega)).1
        have c2 := (ct_p (c := (2 : Int32)) (n := 2) hx rfl (by omega)).1
        have c3 := (ct_p (c := (3 : Int32)) (n := 3) hx rfl (by omega)).2
        rw [ct_n hi, c0, c1, c2] at E
        refine Or.inl ⟨by omega, _, E.trans (if_neg h), x + 3, i + 1, _, _, _, rfl, by rw [c3]; omega, ct_s hi (by omega), fun j hj => ?_⟩
        by_cases q : j = k
        · rw [q, pk_us, pk_us, pk_us]
          exact ⟨rfl, by congr 1; omega, by congr 1; omega⟩
        · rw [pk_un q, pk_un q, pk_un q]; exact h3 j (by omega)
  obtain ⟨jaw, fc, fh, ag, fm, se, brow, stn, e, e1, e2⟩ := key
  exact ⟨jaw, brow, stn, fc, fh, ag, fm, se, e, rfl, e1, e2⟩
theorem q_pkPP (hb : p2.toInt = (b : Int)) (hl : b + 65 ≤ 2600) (x : Int32) (hx : x.toInt = ((b + 25 : Nat) : Int)) (g : Nat → Int32) (h0 : g b = yr) (h1 : ∀ k : Nat, k < 8 → g (b + 1 + 3 * k) = jaw k ∧ g (b + 2 + 3 * k) = brow k ∧ g (b + 3 + 3 * k) = stn k) (h2 : ∀ j : Nat, j < b ∨ b + 65 ≤ j → g j = into j) :
    rwM (m_Model_packP_k67 yr jaw brow stn fc fh ag fm se into p2 (x, 0, g)) b yr jaw brow stn fc fh ag fm se ∧ ∀ j : Nat, j < b ∨ b + 65 ≤ j → m_Model_packP_k67 yr jaw brow stn fc fh ag fm se into p2 (x, 0, g) j = into j := by
  unfold m_Model_packP_k67
  refine uy_inv (α := Int32 × Int32 × (Nat → Int32)) 8 (fun k a => a.1.toInt = ((b + 25 + 5 * k : Nat) : Int) ∧ a.2.1.toInt = (k : Int) ∧ a.2.2 b = yr ∧ (∀ k : Nat, k < 8 → a.2.2 (b + 1 + 3 * k) = jaw k ∧ a.2.2 (b + 2 + 3 * k) = brow k ∧ a.2.2 (b + 3 + 3 * k) = stn k) ∧ (∀ j : Nat, j < b ∨ b + 65 ≤ j → a.2.2 j = into j) ∧ ∀ j : Nat, j < k → a.2.2 (b + 25 + 5 * j) = fc j ∧ a.2.2 (b + 26 + 5 * j) = fh j ∧ a.2.2 (b + 27 + 5 * j) = ag j ∧ a.2.2 (b + 28 + 5 * j) = fm j ∧ a.2.2 (b + 29 + 5 * j) = se j) (fun R => rwM R b yr jaw brow stn fc fh ag fm se ∧ ∀ j : Nat, j < b ∨ b + 65 ≤ j → R j = into j) ?_ ⟨hx, rfl, h0, h1, h2, fun j hj => absurd hj (Nat.not_lt_zero j)⟩
  rintro k ⟨x, i, g⟩ hk ⟨hx, hi, h0, h1, h2, h3⟩
  have hx : x.toInt = ((b + 25 + 5 * k : Nat) : Int) := hx
  have hi : i.toInt = (k : Int) := hi
  have E : m_Model_packP_b67 yr jaw brow stn fc fh ag fm se into p2 x i g = (if (8 : Int32) ≤ i then .inr g else .inl (x + 5, i + 1, upd (upd (upd (upd (upd g x.toNatClampNeg (fc i.toNatClampNeg)) (x + 1).toNatClampNeg (fh i.toNatClampNeg)) (x + 2).toNatClampNeg (ag i.toNatClampNeg)) (x + 3).toNatClampNeg (fm i.toNatClampNeg)) (x + 4).toNatClampNeg (se i.toNatClampNeg))) := rfl
  have e8 : (8 : Int32).toInt = 8 := rfl
  by_cases h : (8 : Int32) ≤ i
  · have := ct_ge h hi
    exact Or.inr ⟨g, E.trans (if_pos h), ⟨h0, h1, fun j hj => h3 j (by omega)⟩, h2⟩
  · have hl' := ct_lt h hi
    have c0 : x.toNatClampNeg = b + 25 + 5 * k := ct_n hx
    have c1 := (ct_p (c := (1 : Int32)) (n := 1) hx rfl (by omega)).1
    have c2 := (ct_p (c := (2 : Int32)) (n := 2) hx rfl (by omega)).1
    have c3 := (ct_p (c := (3 : Int32)) (n := 3) hx rfl (by omega)).1
    have c4 := (ct_p (c := (4 : Int32)) (n := 4) hx rfl (by omega)).1
    have c5 := (ct_p (c := (5 : Int32)) (n := 5) hx rfl (by omega)).2
    rw [ct_n hi, c0, c1, c2, c3, c4] at E
    refine Or.inl ⟨by omega, _, E.trans (if_neg h), by show (x + 5).toInt = _; rw [c5]; omega, ct_s hi (by omega), ?_, fun j hj => ⟨?_, ?_, ?_⟩, fun j hj => ?_, fun j hj => ?_⟩
    · show upd _ _ _ b = yr
      rw [pk_un (by omega), pk_un (by omega), pk_un (by omega), pk_un (by omega), pk_un (by omega)]; exact h0
    · show upd _ _ _ _ = jaw j
      rw [pk_un (by omega), pk_un (by omega), pk_un (by omega), pk_un (by omega), pk_un (by omega)]; exact (h1 j hj).1
    · show upd _ _ _ _ = brow j
      rw [pk_un (by omega), pk_un (by omega), pk_un (by omega), pk_un (by omega), pk_un (by omega)]; exact (h1 j hj).2.1
    · show upd _ _ _ _ = stn j
      rw [pk_un (by omega), pk_un (by omega), pk_un (by omega), pk_un (by omega), pk_un (by omega)]; exact (h1 j hj).2.2
    · show upd _ _ _ j = into j
      rw [pk_un (by omega), pk_un (by omega), pk_un (by omega), pk_un (by omega), pk_un (by omega)]; exact h2 j hj
    · by_cases q : j = k
      · rw [q]
        refine ⟨?_, ?_, ?_, ?_, ?_⟩
        · show upd _ _ _ _ = fc k
          rw [pk_un (by omega), pk_un (by omega), pk_un (by omega), pk_un (by omega), pk_us]
        · show upd _ _ _ _ = fh k
          rw [pk_un (by omega), pk_un (by omega), pk_un (by omega), show b + 26 + 5 * k = b + 25 + 5 * k + 1 by omega, pk_us]
        · show upd _ _ _ _ = ag k
          rw [pk_un (by omega), pk_un (by omega), show b + 27 + 5 * k = b + 25 + 5 * k + 2 by omega, pk_us]
        · show upd _ _ _ _ = fm k
          rw [pk_un (by omega), show b + 28 + 5 * k = b + 25 + 5 * k + 3 by omega, pk_us]
        · show upd _ _ _ _ = se k
          rw [show b + 29 + 5 * k = b + 25 + 5 * k + 4 by omega, pk_us]
      · have q3 := h3 j (by omega)
        refine ⟨?_, ?_, ?_, ?_, ?_⟩
        · show upd _ _ _ _ = fc j
          rw [pk_un (by omega), pk_un (by omega), pk_un (by omega), pk_un (by omega), pk_un (by omega)]; exact q3.1
        · show upd _ _ _ _ = fh j
          rw [pk_un (by omega), pk_un (by omega), pk_un (by omega), pk_un (by omega), pk_un (by omega)]; exact q3.2.1
        · show upd _ _ _ _ = ag j
          rw [pk_un (by omega), pk_un (by omega), pk_un (by omega), pk_un (by omega), pk_un (by omega)]; exact q3.2.2.1
        · show upd _ _ _ _ = fm j
          rw [pk_un (by omega), pk_un (by omega), pk_un (by omega), pk_un (by omega), pk_un (by omega)]; exact q3.2.2.2.1
        · show upd _ _ _ _ = se j
          rw [pk_un (by omega), pk_un (by omega), pk_un (by omega), pk_un (by omega), pk_un (by omega)]; exact q3.2.2.2.2
theorem q_pkP (hb : p2.toInt = (b : Int)) (hl : b + 65 ≤ 2600) : rwM (m_Model_packP yr jaw brow stn fc fh ag fm se into p2) b yr jaw brow stn fc fh ag fm se ∧ ∀ j : Nat, j < b ∨ b + 65 ≤ j → m_Model_packP yr jaw brow stn fc fh ag fm se into p2 j = into j := by
  have c0 : p2.toNatClampNeg = b := ct_n hb
  have c1 := (ct_p (c := (1 : Int32)) (n := 1) hb rfl (by omega)).2
  have E0 : m_Model_packP yr jaw brow stn fc fh ag fm se into p2 = m_Model_packP_k14 yr jaw brow stn fc fh ag fm se into p2 (p2 + 1, 0, upd into p2.toNatClampNeg yr) := rfl
  rw [E0, c0]
  unfold m_Model_packP_k14
  refine uy_inv (α := Int32 × Int32 × (Nat → Int32)) 8 (fun k a => a.1.toInt = ((b + 1 + 3 * k : Nat) : Int) ∧ a.2.1.toInt = (k : Int) ∧ a.2.2 b = yr ∧ (∀ j : Nat, j < k → a.2.2 (b + 1 + 3 * j) = jaw j ∧ a.2.2 (b + 2 + 3 * j) = brow j ∧ a.2.2 (b + 3 + 3 * j) = stn j) ∧ (∀ j : Nat, j < b ∨ b + 65 ≤ j → a.2.2 j = into j)) (fun R => rwM R b yr jaw brow stn fc fh ag fm se ∧ ∀ j : Nat, j < b ∨ b + 65 ≤ j → R j = into j) ?_ ⟨c1, rfl, pk_us, fun j hj => absurd hj (Nat.not_lt_zero j), fun j hj => pk_un (by omega)⟩
  rintro k ⟨x, i, g⟩ hk ⟨hx, hi, h0, h1, h2⟩
  have hx : x.toInt = ((b + 1 + 3 * k : Nat) : Int) := hx
  have hi : i.toInt = (k : Int) := hi
  have E : m_Model_packP_b14 yr jaw brow stn fc fh ag fm se into p2 x i g = (if (8 : Int32) ≤ i then .inr (m_Model_packP_k67 yr jaw brow stn fc fh ag fm se into p2 (x, 0, g)) else .inl (x + 3, i + 1, upd (upd (upd g x.toNatClampNeg (jaw i.toNatClampNeg)) (x + 1).toNatClampNeg (brow i.toNatClampNeg)) (x + 2).toNatClampNeg (stn i.toNatClampNeg))) := rfl
  have e8 : (8 : Int32).toInt = 8 := rfl
  by_cases h : (8 : Int32) ≤ i
  · have := ct_ge h hi
    exact Or.inr ⟨_, E.trans (if_pos h), q_pkPP hb hl x (by rw [hx]; congr 1; omega) g h0 (fun j hj => h1 j (by omega)) h2⟩
  · have hl' := ct_lt h hi
    have c0 : x.toNatClampNeg = b + 1 + 3 * k := ct_n hx
    have c1 := (ct_p (c := (1 : Int32)) (n := 1) hx rfl (by omega)).1
    have c2 := (ct_p (c := (2 : Int32)) (n := 2) hx rfl (by omega)).1
    have c3 := (ct_p (c := (3 : Int32)) (n := 3) hx rfl (by omega)).2
    rw [ct_n hi, c0, c1, c2] at E
    refine Or.inl ⟨by omega, _, E.trans (if_neg h), by show (x + 3).toInt = _; rw [c3]; omega, ct_s hi (by omega), ?_, fun j hj => ?_, fun j hj => ?_⟩
    · show upd _ _ _ b = yr
      rw [pk_un (by omega), pk_un (by omega), pk_un (by omega)]; exact h0
    · by_cases q : j = k
      · rw [q]
        refine ⟨?_, ?_, ?_⟩
        · show upd _ _ _ _ = jaw k
          rw [pk_un (by omega), pk_un (by omega), pk_us]
        · show upd _ _ _ _ = brow k
          rw [pk_un (by omega), show b + 2 + 3 * k = b + 1 + 3 * k + 1 by omega, pk_us]
        · show upd _ _ _ _ = stn k
          rw [show b + 3 + 3 * k = b + 1 + 3 * k + 2 by omega, pk_us]
      · have q3 := h1 j (by omega)
        refine ⟨?_, ?_, ?_⟩
        · show upd _ _ _ _ = jaw j
          rw [pk_un (by omega), pk_un (by omega), pk_un (by omega)]; exact q3.1
        · show upd _ _ _ _ = brow j
          rw [pk_un (by omega), pk_un (by omega), pk_un (by omega)]; exact q3.2.1
        · show upd _ _ _ _ = stn j
          rw [pk_un (by omega), pk_un (by omega), pk_un (by omega)]; exact q3.2.2
    · show upd _ _ _ j = into j
      rw [pk_un (by omega), pk_un (by omega), pk_un (by omega)]; exact h2 j hj
theorem q_upPP (hb : p2.toInt = (b : Int)) (hl : b + 65 ≤ 2600) (x : Int32) (hx : x.toInt = ((b + 25 : Nat) : Int)) (jaw brow stn fc1 fh1 ag1 fm1 se1 : Nat → Int32) (h1 : ∀ k : Nat, k < 8 → f (b + 1 + 3 * k) = jaw k ∧ f (b + 2 + 3 * k) = brow k ∧ f (b + 3 + 3 * k) = stn k) :
    (fun R => ∃ jaw fc fh ag fm se brow stn : Nat → Int32, R = (yr, jaw, brow, stn, fc, fh, ag, fm, se) ∧ (∀ k : Nat, k < 8 → f (b + 1 + 3 * k) = jaw k ∧ f (b + 2 + 3 * k) = brow k ∧ f (b + 3 + 3 * k) = stn k) ∧ ∀ k : Nat, k < 8 → f (b + 25 + 5 * k) = fc k ∧ f (b + 26 + 5 * k) = fh k ∧ f (b + 27 + 5 * k) = ag k ∧ f (b + 28 + 5 * k) = fm k ∧ f (b + 29 + 5 * k) = se k) (m_Model_unpackP_k67 jaw0 brow0 stn0 fc0 fh0 ag0 fm0 se0 f p2 (yr, x, 0, jaw, brow, stn, fc1, fh1, ag1, fm1, se1)) := by
  have Z := uy_inv (α := Int32 × Int32 × Int32 × (Nat → Int32) × (Nat → Int32) × (Nat → Int32) × (Nat → Int32) × (Nat → Int32) × (Nat → Int32) × (Nat → Int32) × (Nat → Int32)) (d := (0, fun _ => 0, fun _ => 0, fun _ => 0, fun _ => 0, fun _ => 0, fun _ => 0, fun _ => 0, fun _ => 0)) (F := fun v => m_Model_unpackP_b67 jaw0 brow0 stn0 fc0 fh0 ag0 fm0 se0 f p2 v.1 v.2.1 v.2.2.1 v.2.2.2.1 v.2.2.2.2.1 v.2.2.2.2.2.1 v.2.2.2.2.2.2.1 v.2.2.2.2.2.2.2.1 v.2.2.2.2.2.2.2.2.1 v.2.2.2.2.2.2.2.2.2.1 v.2.2.2.2.2.2.2.2.2.2) 8 (fun k a => ∃ (x i : Int32) (fc fh ag fm se : Nat → Int32), a = (yr, x, i, jaw, brow, stn, fc, fh, ag, fm, se) ∧ x.toInt = ((b + 25 + 5 * k : Nat) : Int) ∧ i.toInt = (k : Int) ∧ ∀ j : Nat, j < k → f (b + 25 + 5 * j) = fc j ∧ f (b + 26 + 5 * j) = fh j ∧ f (b + 27 + 5 * j) = ag j ∧ f (b + 28 + 5 * j) = fm j ∧ f (b + 29 + 5 * j) = se j) (fun R => ∃ jaw fc fh ag fm se brow stn : Nat → Int32, R = (yr, jaw, brow, stn, fc, fh, ag, fm, se) ∧ (∀ k : Nat, k < 8 → f (b + 1 + 3 * k) = jaw k ∧ f (b + 2 + 3 * k) = brow k ∧ f (b + 3 + 3 * k) = stn k) ∧ ∀ k : Nat, k < 8 → f (b + 25 + 5 * k) = fc k ∧ f (b + 26 + 5 * k) = fh k ∧ f (b + 27 + 5 * k) = ag k ∧ f (b + 28 + 5 * k) = fm k ∧ f (b + 29 + 5 * k) = se k) ?_ (a := (yr, x, 0, jaw, brow, stn, fc1, fh1, ag1, fm1, se1)) ⟨x, 0, fc1, fh1, ag1, fm1, se1, rfl, hx, rfl, fun j hj => absurd hj (Nat.not_lt_zero j)⟩
  · exact Z
  · rintro k _ hk ⟨x, i, fc, fh, ag, fm, se, rfl, hx, hi, h3⟩
    have E : m_Model_unpackP_b67 jaw0 brow0 stn0 fc0 fh0 ag0 fm0 se0 f p2 yr x i jaw brow stn fc fh ag fm se = (if (8 : Int32) ≤ i then .inr (yr, jaw, brow, stn, fc, fh, ag, fm, se) else .inl (yr, x + 5, i + 1, jaw, brow, stn, upd fc i.toNatClampNeg (f x.toNatClampNeg), upd fh i.toNatClampNeg (f (x + 1).toNatClampNeg), upd ag i.toNatClampNeg (f (x + 2).toNatClampNeg), upd fm i.toNatClampNeg (f (x + 3).toNatClampNeg), upd se i.toNatClampNeg (f (x + 4).toNatClampNeg))) := rfl
    have e8 : (8 : Int32).toInt = 8 := rfl
    by_cases h : (8 : Int32) ≤ i
    · have := ct_ge h hi
      exact Or.inr ⟨_, E.trans (if_pos h), jaw, fc, fh, ag, fm, se, brow, stn, rfl, h1, fun j hj => h3 j (by omega)⟩
    · have hl' := ct_lt h hi
      have c0 : x.toNatClampNeg = b + 25 + 5 * k := ct_n hx
      have c1 := (ct_p (c := (1 : Int32)) (n := 1) hx rfl (by omega)).1
      have c2 := (ct_p (c := (2 : Int32)) (n := 2) hx rfl (by omega)).1
      have c3 := (ct_p (c := (3 : Int32)) (n := 3) hx rfl (by omega)).1
      have c4 := (ct_p (c := (4 : Int32)) (n := 4) hx rfl (by omega)).1
      have c5 := (ct_p (c := (5 : Int32)) (n := 5) hx rfl (by omega)).2
      rw [ct_n hi, c0, c1, c2, c3, c4] at E
      refine Or.inl ⟨by omega, _, E.trans (if_neg h), x + 5, i + 1, _, _, _, _, _, rfl, by rw [c5]; omega, ct_s hi (by omega), fun j hj => ?_⟩
      by_cases q : j = k
      · rw [q, pk_us, pk_us, pk_us, pk_us, pk_us]
        exact ⟨rfl, by congr 1; omega, by congr 1; omega, by congr 1; omega, by congr 1; omega⟩
      · rw [pk_un q, pk_un q, pk_un q, pk_un q, pk_un q]; exact h3 j (by omega)
theorem q_upP (hb : p2.toInt = (b : Int)) (hl : b + 65 ≤ 2600) : ∃ jaw brow stn fc fh ag fm se : Nat → Int32, m_Model_unpackP jaw0 brow0 stn0 fc0 fh0 ag0 fm0 se0 f p2 = (f b, jaw, brow, stn, fc, fh, ag, fm, se) ∧ rwM f b (f b) jaw brow stn fc fh ag fm se := by
  have c0 : p2.toNatClampNeg = b := ct_n hb
  have c1 := (ct_p (c := (1 : Int32)) (n := 1) hb rfl (by omega)).2
  have E0 : m_Model_unpackP jaw0 brow0 stn0 fc0 fh0 ag0 fm0 se0 f p2 = m_Model_unpackP_k14 jaw0 brow0 stn0 fc0 fh0 ag0 fm0 se0 f p2 (f p2.toNatClampNeg, p2 + 1, 0, jaw0, brow0, stn0, fc0, fh0, ag0, fm0, se0) := rfl
  rw [E0, c0]
  have key : (fun R => ∃ jaw fc fh ag fm se brow stn : Nat → Int32, R = (f b, jaw, brow, stn, fc, fh, ag, fm, se) ∧ (∀ k : Nat, k < 8 → f (b + 1 + 3 * k) = jaw k ∧ f (b + 2 + 3 * k) = brow k ∧ f (b + 3 + 3 * k) = stn k) ∧ ∀ k : Nat, k < 8 → f (b + 25 + 5 * k) = fc k ∧ f (b + 26 + 5 * k) = fh k ∧ f (b + 27 + 5 * k) = ag k ∧ f (b + 28 + 5 * k) = fm k ∧ f (b + 29 + 5 * k) = se k) (m_Model_unpackP_k14 jaw0 brow0 stn0 fc0 fh0 ag0 fm0 se0 f p2 (f b, p2 + 1, 0, jaw0, brow0, stn0, fc0, fh0, ag0, fm0, se0)) := by
    have Z := uy_inv (α := Int32 × Int32 × Int32 × (Nat → Int32) × (Nat → Int32) × (Nat → Int32) × (Nat → Int32) × (Nat → Int32) × (Nat → Int32) × (Nat → Int32) × (Nat → Int32)) (d := (0, fun _ => 0, fun _ => 0, fun _ => 0, fun _ => 0, fun _ => 0, fun _ => 0, fun _ => 0, fun _ => 0)) (F := fun v => m_Model_unpackP_b14 jaw0 brow0 stn0 fc0 fh0 ag0 fm0 se0 f p2 v.1 v.2.1 v.2.2.1 v.2.2.2.1 v.2.2.2.2.1 v.2.2.2.2.2.1 v.2.2.2.2.2.2.1 v.2.2.2.2.2.2.2.1 v.2.2.2.2.2.2.2.2.1 v.2.2.2.2.2.2.2.2.2.1 v.2.2.2.2.2.2.2.2.2.2) 8 (fun k a => ∃ (x i : Int32) (jaw brow stn : Nat → Int32), a = (f b, x, i, jaw, brow, stn, fc0, fh0, ag0, fm0, se0) ∧ x.toInt = ((b + 1 + 3 * k : Nat) : Int) ∧ i.toInt = (k : Int) ∧ ∀ j : Nat, j < k → f (b + 1 + 3 * j) = jaw j ∧ f (b + 2 + 3 * j) = brow j ∧ f (b + 3 + 3 * j) = stn j) (fun R => ∃ jaw fc fh ag fm se brow stn : Nat → Int32, R = (f b, jaw, brow, stn, fc, fh, ag, fm, se) ∧ (∀ k : Nat, k < 8 → f (b + 1 + 3 * k) = jaw k ∧ f (b + 2 + 3 * k) = brow k ∧ f (b + 3 + 3 * k) = stn k) ∧ ∀ k : Nat, k < 8 → f (b + 25 + 5 * k) = fc k ∧ f (b + 26 + 5 * k) = fh k ∧ f (b + 27 + 5 * k) = ag k ∧ f (b + 28 + 5 * k) = fm k ∧ f (b + 29 + 5 * k) = se k) ?_ (a := (f b, p2 + 1, 0, jaw0, brow0, stn0, fc0, fh0, ag0, fm0, se0)) ⟨p2 + 1, 0, jaw0, brow0, stn0, rfl, c1, rfl, fun j hj => absurd hj (Nat.not_lt_zero j)⟩
    · exact Z
    · rintro k _ hk ⟨x, i, jaw, brow, stn, rfl, hx, hi, h3⟩
      have E : m_Model_unpackP_b14 jaw0 brow0 stn0 fc0 fh0 ag0 fm0 se0 f p2 (f b) x i jaw brow stn fc0 fh0 ag0 fm0 se0 = (if (8 : Int32) ≤ i then .inr (m_Model_unpackP_k67 jaw0 brow0 stn0 fc0 fh0 ag0 fm0 se0 f p2 (f b, x, 0, jaw, brow, stn, fc0, fh0, ag0, fm0, se0)) else .inl (f b, x + 3, i + 1, upd jaw i.toNatClampNeg (f x.toNatClampNeg), upd brow i.toNatClampNeg (f (x + 1).toNatClampNeg), upd stn i.toNatClampNeg (f (x + 2).toNatClampNeg), fc0, fh0, ag0, fm0, se0)) := rfl
      have e8 : (8 : Int32).toInt = 8 := rfl
      by_cases h : (8 : Int32) ≤ i
      · have := ct_ge h hi
        exact Or.inr ⟨_, E.trans (if_pos h), q_upPP hb hl x (by rw [hx]; congr 1; omega) jaw brow stn fc0 fh0 ag0 fm0 se0 (fun j hj => h3 j (by omega))⟩
      · have hl' := ct_lt h hi
        have c0 : x.toNatClampNeg = b + 1 + 3 * k := ct_n hx
        have c1 := (ct_p (c := (1 : Int32)) (n := 1) hx rfl (by omega)).1
        have c2 := (ct_p (c := (2 : Int32)) (n := 2) hx rfl (by omega)).1
        have c3 := (ct_p (c := (3 : Int32)) (n := 3) hx rfl (by omega)).2
        rw [ct_n hi, c0, c1, c2] at E
        refine Or.inl ⟨by omega, _, E.trans (if_neg h), x + 3, i + 1, _, _, _, rfl, by rw [c3]; omega, ct_s hi (by omega), fun j hj => ?_⟩
        by_cases q : j = k
        · rw [q, pk_us, pk_us, pk_us]
          exact ⟨rfl, by congr 1; omega, by congr 1; omega⟩
        · rw [pk_un q, pk_un q, pk_un q]; exact h3 j (by omega)
  obtain ⟨jaw, fc, fh, ag, fm, se, brow, stn, e, e1, e2⟩ := key
  exact ⟨jaw, brow, stn, fc, fh, ag, fm, se, e, rfl, e1, e2⟩
end UXP11
/-! rows that are put back -/
/-- a row's beginning, as it was -/
def ux_lo (n : Nat) (f g : Nat → Int32) : Prop := ∀ k : Nat, k < n → g k = f k
theorem ux_lo_rf {n : Nat} {f : Nat → Int32} : ux_lo n f f := fun _ _ => rfl
theorem ux_lo_tr {n : Nat} {f g h : Nat → Int32} (a : ux_lo n f g) (b : ux_lo n g h) : ux_lo n f h := fun k hk => (b k hk).trans (a k hk)
theorem ux_lo_up {n : Nat} {f g : Nat → Int32} {i x : Int32} (e : g = upd f i.toNatClampNeg x) (hi : (n : Int) ≤ i.toInt) : ux_lo n f g := fun k hk => by
  rw [e]
  exact pk_un (by show k ≠ i.toInt.toNat; omega)
def ux_lx (p : Int32) (f g : Nat → Int32) : Prop := ∀ k : Nat, k < 8 → k ≠ p.toNatClampNeg → g k = f k
theorem ux_lx_lo {p : Int32} {f g : Nat → Int32} (h : ux_lo 8 f g) : ux_lx p f g := fun k hk _ => h k hk
theorem ux_lx_up {p v : Int32} {f g g' : Nat → Int32} (h : ux_lx p f g) (e : g' = upd g p.toNatClampNeg v) : ux_lx p f g' := fun k hk hn => by rw [e, pk_un hn]; exact h k hk hn
theorem ux_lx_tr {p : Int32} {f g g' : Nat → Int32} (h : ux_lx p f g) (h2 : ux_lo 8 g g') : ux_lx p f g' := fun k hk hn => (h2 k hk).trans (h k hk hn)
def ux_wv (x : Int32) (f : Nat → Int32) (p : Int32) : Prop := x = f p.toNatClampNeg
theorem ux_wv_of {x p : Int32} {f g : Nat → Int32} (e : x = g p.toNatClampNeg) (h : ux_lo 8 f g) (hp : 0 ≤ p.toInt ∧ p.toInt ≤ 7) : ux_wv x f p := e.trans (h _ (by show p.toInt.toNat < 8; omega))
theorem ux_lx_back {p x : Int32} {f g g' : Nat → Int32} (h : ux_lx p f g) (e : g' = upd g p.toNatClampNeg x) (hx : ux_wv x f p) : ux_lo 8 f g' := fun k hk => by
  rw [e]
  by_cases q : k = p.toNatClampNeg
  · rw [q, pk_us]; exact hx
  · rw [pk_un q]; exact h k hk q
section UXLO
variable {R into jaw brow stn fc fh ag fm se jaw' brow' stn' fc' fh' ag' fm' se' f j0 b0 s0 f0 h0 a0 m0 e0 g : Nat → Int32} {b : Nat} {y y' p2 : Int32}
theorem rw_lo (h : rwM R b y jaw brow stn fc fh ag fm se) (h' : rwM R b y' jaw' brow' stn' fc' fh' ag' fm' se') : y' = y ∧ ux_lo 8 jaw jaw' ∧ ux_lo 8 brow brow' ∧ ux_lo 8 stn stn' ∧ ux_lo 8 fc fc' ∧ ux_lo 8 fh fh' ∧ ux_lo 8 ag ag' ∧ ux_lo 8 fm fm' ∧ ux_lo 8 se se' := by
  obtain ⟨a1, a2, a3⟩ := h
  obtain ⟨c1, c2, c3⟩ := h'
  exact ⟨c1.symm.trans a1, fun k hk => (c2 k hk).1.symm.trans (a2 k hk).1, fun k hk => (c2 k hk).2.1.symm.trans (a2 k hk).2.1, fun k hk => (c2 k hk).2.2.symm.trans (a2 k hk).2.2, fun k hk => (c3 k hk).1.symm.trans (a3 k hk).1, fun k hk => (c3 k hk).2.1.symm.trans (a3 k hk).2.1, fun k hk => (c3 k hk).2.2.1.symm.trans (a3 k hk).2.2.1, fun k hk => (c3 k hk).2.2.2.1.symm.trans (a3 k hk).2.2.2.1, fun k hk => (c3 k hk).2.2.2.2.symm.trans (a3 k hk).2.2.2.2⟩
theorem rwM_lo (h : rwM R b y' jaw' brow' stn' fc' fh' ag' fm' se') (e : y' = y) (l1 : ux_lo 8 jaw jaw') (l2 : ux_lo 8 brow brow') (l3 : ux_lo 8 stn stn') (l4 : ux_lo 8 fc fc') (l5 : ux_lo 8 fh fh') (l6 : ux_lo 8 ag ag') (l7 : ux_lo 8 fm fm') (l8 : ux_lo 8 se se') : rwM R b y jaw brow stn fc fh ag fm se := by
  obtain ⟨c1, c2, c3⟩ := h
  exact ⟨c1.trans e, fun k hk => ⟨(c2 k hk).1.trans (l1 k hk), (c2 k hk).2.1.trans (l2 k hk), (c2 k hk).2.2.trans (l3 k hk)⟩, fun k hk => ⟨(c3 k hk).1.trans (l4 k hk), (c3 k hk).2.1.trans (l5 k hk), (c3 k hk).2.2.1.trans (l6 k hk), (c3 k hk).2.2.2.1.trans (l7 k hk), (c3 k hk).2.2.2.2.trans (l8 k hk)⟩⟩
theorem pk65_of (e : g = m_Model_pack65 y jaw brow stn fc fh ag fm se into p2) (h : p2.toInt = 0) : rwM g 0 y jaw brow stn fc fh ag fm se := by
  rw [e]; exact (q_pk65 (b := 0) h (by decide)).1
theorem up65_of (e : (y, jaw, brow, stn, fc, fh, ag, fm, se) = m_Model_unpack65 j0 b0 s0 f0 h0 a0 m0 e0 f p2) (h : p2.toInt = 0) : rwM f 0 y jaw brow stn fc fh ag fm se := by
  obtain ⟨a1, a2, a3, a4, a5, a6, a7, a8, q1, q2⟩ := q_up65 (jaw0 := j0) (brow0 := b0) (stn0 := s0) (fc0 := f0) (fh0 := h0) (ag0 := a0) (fm0 := m0) (se0 := e0) (f := f) (b := 0) h (by decide)
  rw [q1] at e
  simp only [Prod.mk.injEq] at e
  obtain ⟨rfl, rfl, rfl, rfl, rfl, rfl, rfl, rfl, rfl⟩ := e
  exact q2
end UXLO
