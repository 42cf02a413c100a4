/-! a year: stones wear -/
section UXY
variable {G P g p rn yr wl sl : Int32} {jw br st ag fm se tl jaw brow stn fc fh ag' fm' se' wit sg V A w0 st0 : Nat → Int32}
theorem nI_cl {k : Nat} (hk : k < 2147483648) : (nI k).toNatClampNeg = k := ct_n (nI_toInt (by omega))
theorem q_bes {i n : Nat} (hG : tl 0 = G) (hn : G.toInt = (n : Int)) (hn8 : n ≤ 8) (hi : g.toInt = (i : Int)) (hin : i < n) : m_Model_besideOf tl stn g = stn ((i + 1) % n) + stn ((i + n - 1) % n) := by
  have eG : G = nI n := ct_I hn (by omega)
  have e1 : (1 : Int32).toInt = 1 := rfl
  have E : m_Model_besideOf tl stn g = stn ((g + 1) - (g + 1) / tl 0 * tl 0).toNatClampNeg + stn ((g + tl 0 - 1) - (g + tl 0 - 1) / tl 0 * tl 0).toNatClampNeg := rfl
  have a1 : g + 1 = nI (i + 1) := ct_I (ct_s hi (by omega)) (by omega)
  have a3 : (g + G).toInt = (i : Int) + n := by rw [iv_tadd (by omega) (by omega)]; omega
  have a2 : g + G - 1 = nI (i + n - 1) := ct_I (by rw [iv_tsub (by omega) (by omega)]; omega) (by omega)
  have m1 : (i + 1) % n < n := Nat.mod_lt _ (by omega)
  have m2 : (i + n - 1) % n < n := Nat.mod_lt _ (by omega)
  rw [E, hG, a1, a2, eG, pk_rem (by omega) (by omega) (by omega), pk_rem (by omega) (by omega) (by omega), nI_cl (by omega), nI_cl (by omega)]
/-- what the class reckons a stone's wear from -/
theorem q_weo {i n : Nat} (hn : G.toInt = (n : Int)) (hn8 : n ≤ 8) (hi : g.toInt = (i : Int)) (hin : i < n) :
    m_Walk_wearOf G st wl wit V w0 g = ((m_Rule_worth wl wit (upd (upd V 1 (st i)) 2 (st ((i + n - 1) % n) + st ((i + 1) % n))) w0).1, upd (upd V 1 (st i)) 2 (st ((i + n - 1) % n) + st ((i + 1) % n)), (m_Rule_worth wl wit (upd (upd V 1 (st i)) 2 (st ((i + n - 1) % n) + st ((i + 1) % n))) w0).2) := by
  have e1 : (1 : Int32).toInt = 1 := rfl
  have e0 : (0 : Int32).toInt = 0 := rfl
  have gl : (G - 1).toInt = (n : Int) - 1 := by rw [iv_tsub (by omega) (by omega)]; omega
  have cl : (G - 1).toNatClampNeg = n - 1 := by show (G - 1).toInt.toNat = _; rw [gl]; omega
  have ci := ct_n hi
  have c0 : (0 : Int32).toNatClampNeg = 0 := rfl
  by_cases h1 : g = 0
  · have i0 : i = 0 := by have := congrArg Int32.toInt h1; omega
    have mb : (i + n - 1) % n = n - 1 := by rw [i0, Nat.zero_add]; exact Nat.mod_eq_of_lt (by omega)
    by_cases h2 : g = G - 1
    · have n1 : n = 1 := by have := congrArg Int32.toInt h2; omega
      have ma : (i + 1) % n = 0 := by rw [i0, n1]
      refine (if_pos h1).trans ((if_pos h2).trans ?_)
      show (_, _, _) = _
      rw [mb, ma, ← cl, ← ci]; rfl
    · have hne : i ≠ n - 1 := fun w => h2 (Int32.toInt_inj.mp (by omega))
      have ma : (i + 1) % n = i + 1 := Nat.mod_eq_of_lt (by omega)
      have c1 : (g + 1).toNatClampNeg = i + 1 := ct_n (ct_s hi (by omega))
      refine (if_pos h1).trans ((if_neg h2).trans ?_)
      show (_, _, _) = _
      rw [mb, ma, ← c1, ← cl, ← ci]; rfl
  · have i0 : i ≠ 0 := fun w => h1 (Int32.toInt_inj.mp (by omega))
    have mb : (i + n - 1) % n = i - 1 := by
      have : i + n - 1 = (i - 1) + n := by omega
      rw [this, Nat.add_mod_right]; exact Nat.mod_eq_of_lt (by omega)
    have c2 : (g - 1).toNatClampNeg = i - 1 := by
      show (g - 1).toInt.toNat = _
      rw [iv_tsub (by omega) (by omega)]; omega
    by_cases h2 : g = G - 1
    · have n1 : i = n - 1 := by have := congrArg Int32.toInt h2; omega
      have ma : (i + 1) % n = 0 := by rw [show i + 1 = n by omega, Nat.mod_self]
      refine (if_neg h1).trans ((if_pos h2).trans ?_)
      show (_, _, _) = _
      rw [mb, ma, ← c2, ← ci]; rfl
    · have hne : i ≠ n - 1 := fun w => h2 (Int32.toInt_inj.mp (by omega))
      have ma : (i + 1) % n = i + 1 := Nat.mod_eq_of_lt (by omega)
      have c1 : (g + 1).toNatClampNeg = i + 1 := ct_n (ct_s hi (by omega))
      refine (if_neg h1).trans ((if_neg h2).trans ?_)
      show (_, _, _) = _
      rw [mb, ma, ← c1, ← c2, ← ci]; rfl
theorem mn20 (v : Int32) : (if (20 : Int32) < v then (20 : Int32) else v) = (if v < 20 then v else 20) := by
  by_cases h1 : (20 : Int32) < v
  · rw [if_pos h1, if_neg (fun w => by have := lt_i w; have := lt_i h1; omega)]
  · rw [if_neg h1]
    by_cases h2 : v < 20
    · rw [if_pos h2]
    · rw [if_neg h2]; exact Int32.toInt_inj.mp (by have := nlt_i h1; have := nlt_i h2; omega)
/-- what wears, kept to 0 to 20 -/
def k20 (v : Int32) : Int32 := if (0 : Int32) < (if v < 20 then v else 20) then (if v < 20 then v else 20) else 0
theorem k20_iv (v : Int32) : iv (k20 v) 0 20 := by
  have e0 : (0 : Int32).toInt = 0 := rfl
  have e20 : (20 : Int32).toInt = 20 := rfl
  unfold k20
  by_cases h2 : v < 20
  · rw [if_pos h2]
    have := lt_i h2
    by_cases h3 : (0 : Int32) < v
    · rw [if_pos h3]; have := lt_i h3; exact ⟨by omega, by omega⟩
    · rw [if_neg h3]; exact ⟨by omega, by omega⟩
  · rw [if_neg h2, if_pos (by decide)]; exact ⟨by omega, by omega⟩
/-- both rules of stones: the reference's wear of stone i, the class's -/
theorem q_wr {i n : Nat} (hG : tl 0 = G) (h4 : tl 4 = wl) (hn : G.toInt = (n : Int)) (hn8 : n ≤ 8) (hi : g.toInt = (i : Int)) (hin : i < n) (hs : ∀ k : Nat, (k : Int) < G.toInt → st k = stn k)
    (hw0 : 0 ≤ wl.toInt) (hC : ∀ k : Nat, (k : Int) < wl.toInt → cen 4 id (wit k) (sg k)) (hW : wf sg wl) (hd : wl ≠ 0 → dep sg wl.toInt.toNat = 1) (v3 : V 3 = yr) (v0 : V 0 = rn) :
    k20 (if wl = 0 then rn else (m_Walk_wearOf G st wl wit V w0 g).1) = (m_Model_wearsOf yr tl sg stn A st0 g rn).1 := by
  have e0 : (0 : Int32).toInt = 0 := rfl
  by_cases h : wl = 0
  · rw [if_pos h]
    have q : tl (4 : Int32).toNatClampNeg ≤ 0 := by show tl 4 ≤ 0; rw [h4, h]; decide
    have E : m_Model_wearsOf yr tl sg stn A st0 g rn = m_Model_wearsOf_k66 yr tl sg stn A st0 g rn rn A st0 := if_pos q
    rw [E]; rfl
  · rw [if_neg h, q_weo hn hn8 hi hin]
    have q : ¬ tl (4 : Int32).toNatClampNeg ≤ 0 := fun w => by
      have w : tl 4 ≤ 0 := w
      rw [h4] at w; have := le_i w
      exact h (Int32.toInt_inj.mp (by omega))
    have E : m_Model_wearsOf yr tl sg stn A st0 g rn = m_Model_wearsOf_k66 yr tl sg stn A st0 g rn (m_Model_valueNow (upd (upd (upd (upd A 0 rn) 1 (stn g.toNatClampNeg)) 2 (m_Model_besideOf tl stn g)) 3 yr) st0 sg (tl 4)).1 (upd (upd (upd (upd A 0 rn) 1 (stn g.toNatClampNeg)) 2 (m_Model_besideOf tl stn g)) 3 yr) (m_Model_valueNow (upd (upd (upd (upd A 0 rn) 1 (stn g.toNatClampNeg)) 2 (m_Model_besideOf tl stn g)) 3 yr) st0 sg (tl 4)).2 := if_neg q
    have m1 : (i + 1) % n < n := Nat.mod_lt _ (by omega)
    have m2 : (i + n - 1) % n < n := Nat.mod_lt _ (by omega)
    have X := q_wor (items := wit) (V := upd (upd V 1 (st i)) 2 (st ((i + n - 1) % n) + st ((i + 1) % n))) (A := upd (upd (upd (upd A 0 rn) 1 (stn g.toNatClampNeg)) 2 (m_Model_besideOf tl stn g)) 3 yr) (w0 := w0) (st0 := st0) hw0 hC (fun j hj => by
      rcases (show j = 0 ∨ j = 1 ∨ j = 2 ∨ j = 3 by omega) with rfl | rfl | rfl | rfl
      · show V 0 = rn; exact v0
      · show st i = stn g.toNatClampNeg; rw [ct_n hi]; exact hs i (by omega)
      · show st ((i + n - 1) % n) + st ((i + 1) % n) = m_Model_besideOf tl stn g
        rw [q_bes hG hn hn8 hi hin, hs _ (by omega), hs _ (by omega)]; exact Int32.add_comm _ _
      · show V 3 = yr; exact v3) hW (hd h)
    rw [E, h4]
    show k20 (m_Rule_worth wl wit _ w0).1 = k20 (m_Model_valueNow _ st0 sg wl).1
    rw [X]
end UXY
