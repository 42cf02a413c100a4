/-! the reference: numbers between two longs -/
def tv (f : Nat → Int32) : Prop := iv (f 0) 0 8 ∧ iv (f 1) 0 8 ∧ iv (f 2) 0 8 ∧ iv (f 4) 0 700 ∧ iv (f 5) 0 700
abbrev wgX12_isIn : List Cond := .code yX12_isIn cX12_isIn 6 (some .boolean) :: gT12
abbrev rm_Model_isIn : Room := { frames := 0, cells := 0, slots := 0, locals := 0 }
def isInP (p1 p2 p3 : Int64) (r : Int32) : Prop := iv r 0 1 ∧ (¬ r = 0 → p2.toInt ≤ p1.toInt ∧ p1.toInt ≤ p3.toInt) ∧ (r = 0 → p1.toInt < p2.toInt ∨ p3.toInt < p1.toInt)
theorem l_lt {a b : Int64} (h : a < b) : a.toInt < b.toInt := Int64.lt_iff_toInt_lt.mp h
theorem lg_neg {x y : Int64} (h : lg_cmp x y < 0) : x.toInt < y.toInt := by
  unfold lg_cmp at h
  by_cases h1 : y < x
  · rw [if_pos h1] at h; exact absurd h (by decide)
  · rw [if_neg h1] at h
    by_cases h2 : x = y
    · rw [if_pos h2] at h; exact absurd h (by decide)
    · have q1 : ¬ y.toInt < x.toInt := fun w => h1 (Int64.lt_iff_toInt_lt.mpr w)
      have q2 : x.toInt ≠ y.toInt := fun w => h2 (Int64.toInt_inj.mp w)
      omega
theorem lg_nneg {x y : Int64} (h : ¬ lg_cmp x y < 0) : y.toInt ≤ x.toInt := by
  rcases Int.lt_or_le x.toInt y.toInt with q | q
  · exfalso
    apply h
    have h1 : ¬ y < x := fun w => by have := l_lt w; omega
    have h2 : ¬ x = y := fun w => by rw [w] at q; omega
    unfold lg_cmp
    rw [if_neg h1, if_neg h2]; decide
  · exact q
theorem lg_pos {x y : Int64} (h : 0 < lg_cmp x y) : y.toInt < x.toInt := by
  rcases Int.lt_or_le y.toInt x.toInt with q | q
  · exact q
  · exfalso
    have h1 : ¬ y < x := fun w => by have := l_lt w; omega
    unfold lg_cmp at h
    rw [if_neg h1] at h
    by_cases h2 : x = y
    · rw [if_pos h2] at h; exact absurd h (by decide)
    · rw [if_neg h2] at h; exact absurd h (by decide)
theorem lg_npos {x y : Int64} (h : ¬ 0 < lg_cmp x y) : x.toInt ≤ y.toInt := by
  rcases Int.lt_or_le y.toInt x.toInt with q | q
  · exfalso
    apply h
    have h1 : y < x := Int64.lt_iff_toInt_lt.mpr q
    unfold lg_cmp
    rw [if_pos h1]; decide
  · exact q
set_option maxHeartbeats 4000000 in
set_option maxRecDepth 100000 in
theorem c_Model_isIn (l : Launch) (D : va_G) (ct : Nat → ClassId) (p1 p2 p3 : Int64) : cP l yX12_isIn wgX12_isIn rm_Model_isIn D ct [] [.long p1, .long p2, .long p3] (isInP p1 p2 p3) := by
  refine cPz_of (cc := cX12_isIn) (maxL := 6) (by decide) rfl (Nat.le_of_ble_eq_true rfl) ?_
  intro p e s m args below meth c Q hx hb hml hts hown hK hP hE ls hl
  have hl : lv_has ls 6 [(0, .long p1), (2, .long p2), (4, .long p3)] := hl
  refine lv_lload_n hx hb dX12_isIn_0 rfl (lv_at hl 0 rfl) ?_
  refine lv_lload_n hx hb dX12_isIn_1 rfl (lv_at hl 1 rfl) ?_
  refine W.lcmp hx hb dX12_isIn_2 ?_
  refine lv_if_lt (tgt := 17) hx hb dX12_isIn_3 (by decide) (fun c1 => ?_) (fun c1 => ?_)
  · refine lv_iconst (v := 0) hx hb dX12_isIn_17 (by decide) ?_
    exact hE _ _ _ (iv_lit (0 : Int32) (by decide)) ⟨iv_lit (0 : Int32) (by decide), fun h => absurd rfl h, fun _ => Or.inl (lg_neg c1)⟩ dX12_isIn_18
  · refine lv_lload_n hx hb dX12_isIn_6 rfl (lv_at hl 0 rfl) ?_
    refine lv_lload hx hb dX12_isIn_7 (lv_at hl 2 rfl) ?_
    refine W.lcmp hx hb dX12_isIn_9 ?_
    refine lv_if_gt (tgt := 17) hx hb dX12_isIn_10 (by decide) (fun c2 => ?_) (fun c2 => ?_)
    · refine lv_iconst (v := 0) hx hb dX12_isIn_17 (by decide) ?_
      exact hE _ _ _ (iv_lit (0 : Int32) (by decide)) ⟨iv_lit (0 : Int32) (by decide), fun h => absurd rfl h, fun _ => Or.inr (lg_pos c2)⟩ dX12_isIn_18
    · refine lv_iconst (v := 1) hx hb dX12_isIn_13 (by decide) ?_
      refine lv_goto (tgt := 18) hx hb dX12_isIn_14 (by decide) ?_
      exact hE _ _ _ (iv_lit (1 : Int32) (by decide)) ⟨iv_lit (1 : Int32) (by decide), fun _ => ⟨lg_nneg c1, lg_npos c2⟩, fun h => absurd h (by decide)⟩ dX12_isIn_18
theorem isin_iv {x r : Int32} {A B : Int64} {a b : Int} (h : isInP x.toInt64 A B r) (hr : ¬ r = 0) (hA : a ≤ A.toInt) (hB : B.toInt ≤ b) : iv x a b := by
  have := h.2.1 hr
  rw [Int32.toInt_toInt64] at this
  exact ⟨by omega, by omega⟩
theorem lof_iv {y : Int32} {a b : Int} (h : iv y a b) : a ≤ y.toInt64.toInt ∧ y.toInt64.toInt ≤ b := by
  rw [Int32.toInt_toInt64]; exact h
/-! code in the order of reckoning: how deep the stack is -/
def dlt (x : Int32) : Int := if (-20 : Int) < x.toInt then 1 else if x.toInt = -28 then 0 else -1
def dep (f : Nat → Int32) : Nat → Int
  | 0 => 0
  | k + 1 => dep f k + dlt (f k)
theorem dlt_p {x : Int32} (h : (-20 : Int) < x.toInt) : dlt x = 1 := by unfold dlt; rw [if_pos h]
theorem dlt_n {x : Int32} (h : x.toInt = -28) : dlt x = 0 := by unfold dlt; rw [if_neg (by omega), if_pos h]
theorem dlt_b {x : Int32} (h : x.toInt ≤ -20) (h2 : x.toInt ≠ -28) : dlt x = -1 := by unfold dlt; rw [if_neg (by omega), if_neg h2]
/-- what may stand behind depth d -/
def okat (x : Int32) (d : Int) : Prop := (-20 < x.toInt → -5 ≤ x.toInt ∧ 0 ≤ d ∧ d < 32) ∧ (x.toInt = -28 → 1 ≤ d ∧ d ≤ 32) ∧ (x.toInt ≤ -20 → x.toInt ≠ -28 → 2 ≤ d ∧ d ≤ 32)
def wf (f : Nat → Int32) (z : Int32) : Prop := ∀ k : Nat, (k : Int) < z.toInt → okat (f k) (dep f k)
theorem dep_next {f : Nat → Int32} {n k k' : Int32} {a b : Int} (hk : k' = k + 1) (ik : iv k a b) (ha : 0 ≤ a) (hb : b ≤ 1000000) (hn : n.toInt = dep f k.toNatClampNeg + dlt (f k.toNatClampNeg)) : n.toInt = dep f k'.toNatClampNeg := by
  rw [hn, cl_add (n := 1) hk ik ha rfl (by omega)]
  rfl
/-! rows of states in the reference: 65 ints, families and seats by five -/
def mrow (r : Nat → Int32) (o : Nat) (Y : Int) : Prop := iv (r o) 0 Y ∧ ∀ p : Nat, p < 8 → iv (r (o + 25 + 5 * p + 3)) (-1) 7 ∧ iv (r (o + 25 + 5 * p + 4)) (-1) 7
/-- how far a row is written: the year, then n families and seats -/
def mpart (r : Nat → Int32) (o n : Nat) (y : Int32) : Prop := r o = y ∧ ∀ p : Nat, p < n → iv (r (o + 25 + 5 * p + 3)) (-1) 7 ∧ iv (r (o + 25 + 5 * p + 4)) (-1) 7
theorem mpart_skip {r g : Nat → Int32} {o n i : Nat} {y x : Int32} (h : mpart r o n y) (e : g = upd r i x) (hi : o + 25 + 5 * n ≤ i ∨ (o < i ∧ i < o + 25)) : mpart g o n y := by
  subst e
  refine ⟨by rw [pk_un (by omega)]; exact h.1, fun p hp => ⟨?_, ?_⟩⟩
  · rw [pk_un (by omega)]; exact (h.2 p hp).1
  · rw [pk_un (by omega)]; exact (h.2 p hp).2
theorem mpart_add {r r1 g : Nat → Int32} {o n i j : Nat} {y x z : Int32} (h : mpart r o n y) (e1 : r1 = upd r i x) (e2 : g = upd r1 j z) (hi : i = o + 25 + 5 * n + 3) (hj : j = o + 25 + 5 * n + 4) (hx : iv x (-1) 7) (hz : iv z (-1) 7) : mpart g o (n + 1) y := by
  subst e1; subst e2; subst hi; subst hj
  refine ⟨by rw [pk_un (by omega), pk_un (by omega)]; exact h.1, fun p hp => ?_⟩
  by_cases q : p = n
  · subst q
    refine ⟨?_, ?_⟩
    · rw [pk_un (by omega), pk_us]; exact hx
    · rw [pk_us]; exact hz
  · refine ⟨?_, ?_⟩
    · rw [pk_un (by omega), pk_un (by omega)]; exact (h.2 p (by omega)).1
    · rw [pk_un (by omega), pk_un (by omega)]; exact (h.2 p (by omega)).2
theorem mrow_of {r : Nat → Int32} {o : Nat} {y : Int32} {Y : Int} (h : mpart r o 8 y) (hy : iv y 0 Y) : mrow r o Y := ⟨by rw [h.1]; exact hy, h.2⟩
theorem mrow_fam {r : Nat → Int32} {o : Nat} {Y : Int} (h : mrow r o Y) {p : Nat} (hp : p < 8) : iv (r (o + 25 + 5 * p + 3)) (-1) 7 := (h.2 p hp).1
theorem mrow_seat {r : Nat → Int32} {o : Nat} {Y : Int} (h : mrow r o Y) {p : Nat} (hp : p < 8) : iv (r (o + 25 + 5 * p + 4)) (-1) 7 := (h.2 p hp).2
