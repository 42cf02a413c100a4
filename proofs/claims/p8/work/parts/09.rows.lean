/-! rows of states that are kept: 65 ints a state -/
theorem cl_add {x y z : Int32} {a b : Int} {n : Nat} (q : z = x + y) (h : iv x a b) (ha : 0 ≤ a) (hy : y.toInt = (n : Int)) (hb : b + n ≤ 2147483647) : z.toNatClampNeg = x.toNatClampNeg + n := by
  have h1 := h.1; have h2 := h.2
  have e : z.toInt = x.toInt + y.toInt := by rw [q]; exact iv_tadd (by omega) (by omega)
  show z.toInt.toNat = x.toInt.toNat + n
  omega
theorem cl_mul {x y z : Int32} {b : Int} {n : Nat} (q : z = x * y) (h : iv x 0 b) (hy : y.toInt = (n : Int)) (hb : b * n ≤ 2147483647) : z.toNatClampNeg = x.toNatClampNeg * n := by
  have h1 := h.1; have h2 := h.2
  have p2 : x.toInt * (n : Int) ≤ b * n := Int.mul_le_mul_of_nonneg_right h2 (Int.natCast_nonneg n)
  have p1 : 0 ≤ x.toInt * (n : Int) := Int.mul_nonneg h1 (Int.natCast_nonneg n)
  have e : z.toInt = x.toInt * (n : Int) := by rw [q, iv_tmul (by rw [hy]; omega) (by rw [hy]; omega), hy]
  have e2 : ((x.toNatClampNeg : Nat) : Int) = x.toInt := iv_cl h (by decide)
  have e3 : ((z.toNatClampNeg : Nat) : Int) = z.toInt := by
    show ((z.toInt.toNat : Nat) : Int) = _
    omega
  have e4 : ((z.toNatClampNeg : Nat) : Int) = ((x.toNatClampNeg * n : Nat) : Int) := by
    rw [e3, e, Int.natCast_mul, e2]
  exact Int.ofNat.inj e4
/-- g is r with a state written at o -/
def wrote (r g : Nat → Int32) (o : Nat) (f se : Nat → Int32) (y : Int32) : Prop :=
  (∀ k : Nat, (k < o ∨ o + 65 ≤ k) → g k = r k) ∧ (∀ j : Nat, j < 8 → g (o + 48 + j) = f j) ∧ (∀ j : Nat, j < 8 → g (o + 56 + j) = se j) ∧ g (o + 64) = y
theorem wt_spec {r j b s a f se : Nat → Int32} {y : Int32} {o : Nat} : wrote r (upd (va_cpy se (va_cpy f (va_cpy a (va_cpy s (va_cpy b (va_cpy j r 0 o 16) 0 (o + 16) 16) 0 (o + 32) 8) 0 (o + 40) 8) 0 (o + 48) 8) 0 (o + 56) 8) (o + 64) y) o f se y := by
  refine ⟨fun k hk => ?_, fun k hk => ?_, fun k hk => ?_, ?_⟩
  · rw [pk_un (by omega), pk_cpy_out (by omega), pk_cpy_out (by omega), pk_cpy_out (by omega), pk_cpy_out (by omega), pk_cpy_out (by omega), pk_cpy_out (by omega)]
  · rw [pk_un (by omega), pk_cpy_out (by omega), pk_cpy_in (by omega) (by omega)]
    congr 1; omega
  · rw [pk_un (by omega), pk_cpy_in (by omega) (by omega)]
    congr 1; omega
  · rw [pk_us]
/-- a state that may be read at o, of n people -/
def rowOK (r : Nat → Int32) (o : Nat) (n : Int32) : Prop :=
  (∀ j : Nat, (j : Int) < n.toInt → iv (r (o + 48 + j)) (-1) 7) ∧ (∀ j : Nat, j < 8 → iv (r (o + 56 + j)) (-1) 7) ∧ iv (r (o + 64)) 0 999
/-- all z states of the row are such -/
def rk (r : Nat → Int32) (z n : Int32) : Prop := ∀ k : Nat, (k : Int) < z.toInt → rowOK r (k * 65) n
theorem rk_keep {r g f se : Nat → Int32} {z z' n y : Int32} {o : Nat} (h : rk r z n) (hw : wrote r g o f se y) (ho : o = z.toNatClampNeg * 65) (hz : iv z 0 39) (e : z' = z + 1) (hf : fv f n) (hn : iv n 0 8) (hs : av se 8 (-1) 7) (hy : iv y 0 999) : rk g z' n := by
  intro k hk
  have z1 := hz.1; have z2 := hz.2
  have e1 : (1 : Int32).toInt = 1 := rfl
  have ez : z'.toInt = z.toInt + 1 := by rw [e, iv_tadd (by omega) (by omega), e1]
  have ec : ((z.toNatClampNeg : Nat) : Int) = z.toInt := iv_cl hz (by decide)
  have n2 := hn.2
  by_cases hkz : k = z.toNatClampNeg
  · have eo : k * 65 = o := by rw [hkz, ho]
    rw [eo]
    refine ⟨fun j hj => ?_, fun j hj => ?_, ?_⟩
    · rw [hw.2.1 j (by omega)]; exact hf j hj
    · rw [hw.2.2.1 j hj]; exact hs j hj
    · rw [hw.2.2.2]; exact hy
  · have hlt : k < z.toNatClampNeg := by omega
    have hle : k * 65 + 65 ≤ o := by rw [ho]; omega
    have hk2 := h k (by omega)
    refine ⟨fun j hj => ?_, fun j hj => ?_, ?_⟩
    · rw [hw.1 _ (by omega)]; exact hk2.1 j hj
    · rw [hw.1 _ (by omega)]; exact hk2.2.1 j hj
    · rw [hw.1 _ (by omega)]; exact hk2.2.2
theorem rk_shift {r : Nat → Int32} {z n : Int32} (h : rk r z n) (hz : iv z 40 40) (hn : iv n 0 8) : rk (va_cpy r r 65 0 2535) 39 n := by
  intro k hk
  have z1 := hz.1
  have e1 : (39 : Int32).toInt = 39 := rfl
  have n2 := hn.2
  have hk2 := h (k + 1) (by omega)
  refine ⟨fun j hj => ?_, fun j hj => ?_, ?_⟩
  · rw [pk_cpy_in (by omega) (by omega)]
    have := hk2.1 j hj
    rw [show 65 + (k * 65 + 48 + j - 0) = (k + 1) * 65 + 48 + j by omega]; exact this
  · rw [pk_cpy_in (by omega) (by omega)]
    have := hk2.2.1 j hj
    rw [show 65 + (k * 65 + 56 + j - 0) = (k + 1) * 65 + 56 + j by omega]; exact this
  · rw [pk_cpy_in (by omega) (by omega)]
    have := hk2.2.2
    rw [show 65 + (k * 65 + 64 - 0) = (k + 1) * 65 + 64 by omega]; exact this
theorem rk_less {r : Nat → Int32} {z z' n : Int32} (h : rk r z n) (hz : z'.toInt ≤ z.toInt) : rk r z' n := fun k hk => h k (by omega)
theorem rk_row {r : Nat → Int32} {z z' n : Int32} (h : rk r z n) (hz : iv z 1 40) (e : z' = z - 1) : rowOK r (z'.toNatClampNeg * 65) n := by
  have z1 := hz.1; have z2 := hz.2
  have e1 : (1 : Int32).toInt = 1 := rfl
  have ez : z'.toInt = z.toInt - 1 := by rw [e, iv_tsub (by omega) (by omega), e1]
  refine h _ ?_
  have : ((z'.toNatClampNeg : Nat) : Int) = z'.toInt := by
    show ((z'.toInt.toNat : Nat) : Int) = _
    omega
  omega
theorem rk_copy {r g : Nat → Int32} {z z' n m : Int32} (h : rk r z n) (e : z' = z) (em : m = n) (hz : iv z 0 40) (hn : iv n 0 8) (k : ∀ j : Nat, (j : Int) < z.toInt * 65 → g j = r j) : rk g z' m := by
  intro i hi
  rw [e] at hi
  have n2 := hn.2
  have hk2 := h i hi
  rw [em]
  refine ⟨fun j hj => ?_, fun j hj => ?_, ?_⟩
  · rw [k _ (by omega)]; exact hk2.1 j hj
  · rw [k _ (by omega)]; exact hk2.2.1 j hj
  · rw [k _ (by omega)]; exact hk2.2.2
theorem rk_zero {r : Nat → Int32} {z n : Int32} (h : z.toInt ≤ 0) : rk r z n := fun k hk => by omega
theorem rem_lt {x y z : Int32} {a b c d : Int} (q : z = x - x / y * y) (h : iv x a b) (k : iv y c d) (ha : 0 ≤ a) (hc : 1 ≤ c) : 0 ≤ z.toInt ∧ z.toInt < y.toInt := by
  have h5 := h.1; have k5 := k.1
  obtain ⟨n, hn, rfl⟩ := nI_of (x := x) (by intro w; have := lt_i w; have e : (0 : Int32).toInt = 0 := rfl; omega)
  obtain ⟨m, hm, rfl⟩ := nI_of (x := y) (by intro w; have := lt_i w; have e : (0 : Int32).toInt = 0 := rfl; omega)
  rw [nI_toInt hm] at k5 ⊢
  rw [q, pk_rem hn (by omega) hm]
  have hlt : n % m < m := Nat.mod_lt _ (by omega)
  rw [nI_toInt (by omega)]
  omega
theorem iv_shlK {x t z : Int32} {b f : Int} (k : Nat) (q : z = x <<< (t &&& 31)) (h : iv x 0 b) (hs : ((t &&& 31).toBitVec.smod 32).toNat = k) (hf : b * 2 ^ k ≤ f) (hm : f ≤ 2147483647) : iv z 0 f := by
  obtain ⟨h5, h6⟩ := h
  obtain ⟨n, hn, rfl⟩ := nI_of (x := x) (by intro w; have := lt_i w; have e : (0 : Int32).toInt = 0 := rfl; omega)
  rw [nI_toInt hn] at h6
  have e2 : ((n * 2 ^ k : Nat) : Int) = (n : Int) * 2 ^ k := by simp
  have hp : (0 : Int) ≤ 2 ^ k := by
    have : ((2 ^ k : Nat) : Int) = (2 : Int) ^ k := by simp
    rw [← this]; exact Int.natCast_nonneg _
  have h7 : (n : Int) * 2 ^ k ≤ b * 2 ^ k := Int.mul_le_mul_of_nonneg_right h6 hp
  rw [q, pk_shlN (t &&& 31) k hs (by omega)]
  unfold iv
  rw [nI_toInt (by omega)]
  omega
