/-! sets of places as bits -/
theorem ct_I {x : Int32} {k : Nat} (h : x.toInt = (k : Int)) (hk : k < 2147483648) : x = nI k := Int32.toInt_inj.mp (by rw [nI_toInt (by omega)]; exact h)
set_option maxRecDepth 100000 in
theorem bt_and : ∀ n : Nat, n < 256 → ∀ g : Nat, g < 8 → ((nI n >>> (nI g &&& 31)) &&& 1 = if n.testBit g then 1 else 0) := by decide +kernel
set_option maxRecDepth 100000 in
theorem bt_or : ∀ n : Nat, n < 256 → ∀ a : Nat, a < 8 → nI n ||| ((1 : Int32) <<< (nI a &&& 31)) = nI (n ||| 2 ^ a) ∧ n ||| 2 ^ a < 256 := by decide +kernel
set_option maxRecDepth 100000 in
theorem bt_clr : ∀ n : Nat, n < 256 → ∀ a : Nat, a < 8 → nI n &&& (((1 : Int32) <<< (nI a &&& 31)) ^^^ (-1)) = nI (n &&& (255 ^^^ 2 ^ a)) ∧ n &&& (255 ^^^ 2 ^ a) < 256 := by decide +kernel
set_option maxRecDepth 100000 in
theorem bt_clt : ∀ a : Nat, a < 8 → ∀ g : Nat, g < 8 → (255 ^^^ 2 ^ a).testBit g = !decide (a = g) := by decide +kernel
/-- the bits of t, as f says -/
def bs (t : Int32) (f : Nat → Prop) : Prop := ∃ n : Nat, n < 256 ∧ t = nI n ∧ ∀ g : Nat, g < 8 → (n.testBit g = true ↔ f g)
section UXB
variable {t x y : Int32} {f f' : Nat → Prop} {a g : Nat}
theorem bs_0 (h : ∀ g : Nat, g < 8 → ¬ f g) : bs 0 f := ⟨0, by decide, rfl, fun g hg => ⟨fun w => (by rw [Nat.zero_testBit] at w; cases w), fun w => absurd w (h g hg)⟩⟩
theorem bs_is (h : bs t f) (hg : g < 8) (hx : x.toInt = (g : Int)) : ((t >>> (x &&& 31)) &&& 1 = 1 ↔ f g) ∧ ((t >>> (x &&& 31)) &&& 1 = 0 ↔ ¬ f g) := by
  obtain ⟨n, hn, rfl, hf⟩ := h
  rw [ct_I hx (by omega), bt_and n hn g hg]
  have hq := hf g hg
  by_cases w : n.testBit g = true
  · rw [if_pos w]; exact ⟨⟨fun _ => hq.mp w, fun _ => rfl⟩, ⟨fun q => absurd q (by decide), fun q => absurd (hq.mp w) q⟩⟩
  · rw [if_neg w]; exact ⟨⟨fun q => absurd q (by decide), fun q => absurd (hq.mpr q) w⟩, ⟨fun _ q => w (hq.mpr q), fun _ => rfl⟩⟩
theorem bs_or (h : bs t f) (ha : a < 8) (hx : x.toInt = (a : Int)) (hf' : ∀ g : Nat, g < 8 → (f' g ↔ (f g ∨ a = g))) : bs (t ||| ((1 : Int32) <<< (x &&& 31))) f' := by
  obtain ⟨n, hn, rfl, hf⟩ := h
  obtain ⟨e1, e2⟩ := bt_or n hn a ha
  rw [ct_I hx (by omega), e1]
  refine ⟨_, e2, rfl, fun g hg => ?_⟩
  rw [hf' g hg, Nat.testBit_or, Nat.testBit_two_pow, Bool.or_eq_true, decide_eq_true_eq, hf g hg]
theorem bs_clr (h : bs t f) (ha : a < 8) (hx : x.toInt = (a : Int)) (hf' : ∀ g : Nat, g < 8 → (f' g ↔ (f g ∧ a ≠ g))) : bs (t &&& (((1 : Int32) <<< (x &&& 31)) ^^^ (-1))) f' := by
  obtain ⟨n, hn, rfl, hf⟩ := h
  obtain ⟨e1, e2⟩ := bt_clr n hn a ha
  rw [ct_I hx (by omega), e1]
  refine ⟨_, e2, rfl, fun g hg => ?_⟩
  rw [hf' g hg, Nat.testBit_and, bt_clt a ha g hg, Bool.and_eq_true, hf g hg, Bool.not_eq_true', decide_eq_false_iff_not]
theorem bs_w (h : bs t f) (hf' : ∀ g : Nat, g < 8 → (f' g ↔ f g)) : bs t f' := by
  obtain ⟨n, hn, e, hf⟩ := h
  exact ⟨n, hn, e, fun g hg => by rw [hf' g hg]; exact hf g hg⟩
end UXB
section UXT
variable {G P p g t tt : Int32} {jw br st ag fm se tl jaw brow stn fc fh ag' fm' se' : Nat → Int32}
/-- whether one of the first k sits at g -/
def tkn (se : Nat → Int32) (k g : Nat) : Prop := ∃ j : Nat, j < k ∧ (se j).toInt = (g : Int)
theorem q_tak (h8 : P.toInt ≤ 8) (h0 : 0 ≤ P.toInt) (hs : ∀ k : Nat, (k : Int) < P.toInt → iv (se k) (-1) 7) : bs (m_State_takenBits P se) (tkn se P.toInt.toNat) := by
  unfold m_State_takenBits m_State_takenBits_k4
  refine uy_inv (β := Int32) P.toInt.toNat (fun k a => a.2.toInt = (k : Int) ∧ bs a.1 (tkn se k)) (fun x => bs x (tkn se P.toInt.toNat)) ?_ ⟨rfl, bs_0 (fun g _ w => by obtain ⟨j, hj, _⟩ := w; omega)⟩
  rintro k ⟨b, i⟩ hk ⟨hc, hb⟩
  have hc : i.toInt = (k : Int) := hc
  have hb : bs b (tkn se k) := hb
  have E1 : m_State_takenBits_b4 P se b i = (if P ≤ i then .inr b else if se i.toNatClampNeg = -1 then .inl (b, i + 1) else .inl (b ||| ((1 : Int32) <<< (se i.toNatClampNeg &&& 31)), i + 1)) := rfl
  by_cases h1 : P ≤ i
  · have := ct_ge h1 hc
    have e : k = P.toInt.toNat := by omega
    exact Or.inr ⟨_, E1.trans (if_pos h1), by rw [← e]; exact hb⟩
  · have hl := ct_lt h1 hc
    have hi := hs k hl
    have en := ct_n hc
    by_cases h2 : se i.toNatClampNeg = -1
    · refine Or.inl ⟨by omega, _, E1.trans ((if_neg h1).trans (if_pos h2)), ct_s hc (by omega), bs_w hb (fun g hg => ⟨?_, ?_⟩)⟩
      · rintro ⟨j, hj, hq⟩
        by_cases ej : j = k
        · rw [ej, ← en, h2] at hq
          have : (-1 : Int32).toInt = -1 := rfl
          omega
        · exact ⟨j, by omega, hq⟩
      · rintro ⟨j, hj, hq⟩; exact ⟨j, by omega, hq⟩
    · rw [en] at h2
      have hm : (se k).toInt ≠ -1 := fun w => h2 (Int32.toInt_inj.mp w)
      have h7 := hi.1; have h7' := hi.2
      have ha : (se k).toInt = ((se k).toInt.toNat : Int) := by omega
      rw [en] at E1
      refine Or.inl ⟨by omega, _, E1.trans ((if_neg h1).trans (if_neg h2)), ct_s hc (by omega), bs_or (a := (se k).toInt.toNat) hb (by omega) ha (fun g hg => ⟨?_, ?_⟩)⟩
      · rintro ⟨j, hj, hq⟩
        by_cases ej : j = k
        · right; rw [ej] at hq; omega
        · exact Or.inl ⟨j, by omega, hq⟩
      · rintro (⟨j, hj, hq⟩ | hq)
        · exact ⟨j, by omega, hq⟩
        · exact ⟨k, by omega, by omega⟩
/-- nobody at g -/
theorem q_sitN {i : Nat} (hP : tl 1 = P) (h0 : 0 ≤ P.toInt) (hi : g.toInt = (i : Int)) : m_Model_sitterOf tl se g = -1 ↔ ¬ tkn se P.toInt.toNat i := by
  unfold m_Model_sitterOf m_Model_sitterOf_k2
  refine uy_inv (β := Int32) P.toInt.toNat (fun k a => a.toInt = (k : Int) ∧ ¬ tkn se k i) (fun x => x = -1 ↔ ¬ tkn se P.toInt.toNat i) ?_ ⟨rfl, fun ⟨j, hj, _⟩ => by omega⟩
  rintro k a hk ⟨hc, hn⟩
  have hr := iv_rng P
  have E2 : m_Model_sitterOf_b2 tl se g a = (if P ≤ a then .inr (-1) else if se a.toNatClampNeg = g then .inr a else .inl (a + 1)) := by rw [← hP]; rfl
  have en := ct_n hc
  by_cases h1 : P ≤ a
  · have := ct_ge h1 hc
    have e : k = P.toInt.toNat := by omega
    exact Or.inr ⟨_, E2.trans (if_pos h1), by rw [← e]; exact ⟨fun _ => hn, fun _ => rfl⟩⟩
  · have hl := ct_lt h1 hc
    by_cases h2 : se a.toNatClampNeg = g
    · refine Or.inr ⟨_, E2.trans ((if_neg h1).trans (if_pos h2)), ⟨fun w => ?_, fun w => absurd ⟨k, by omega, ?_⟩ w⟩⟩
      · rw [w] at hc
        have : (-1 : Int32).toInt = -1 := rfl
        omega
      · rw [en] at h2; rw [h2]; exact hi
    · refine Or.inl ⟨by omega, _, E2.trans ((if_neg h1).trans (if_neg h2)), ct_s hc (by omega), ?_⟩
      rintro ⟨j, hj, hq⟩
      by_cases ej : j = k
      · exact h2 (by rw [en, ← ej]; exact Int32.toInt_inj.mp (by rw [hq, hi]))
      · exact hn ⟨j, by omega, hq⟩
end UXT
