theorem ms_bits {v x z : Int32} {n : Nat} (e1 : x = v - 1) (e2 : z = v &&& x) (hv : ¬ v = 0) (hm : v.toBitVec.toNat < n + 1) : z.toBitVec.toNat < n := by
  have h0 : v.toBitVec.toNat ≠ 0 := fun h => hv (Int32.toBitVec_inj.mp (BitVec.eq_of_toNat_eq (by rw [h]; rfl)))
  have hx : x.toBitVec.toNat = v.toBitVec.toNat - 1 := by
    rw [e1, Int32.toBitVec_sub, BitVec.toNat_sub]
    have h1 : (1 : Int32).toBitVec.toNat = 1 := rfl
    have h2 := v.toBitVec.isLt
    rw [h1]
    omega
  have hz : z.toBitVec.toNat ≤ x.toBitVec.toNat := by
    rw [e2, Int32.toBitVec_and, BitVec.toNat_and]; exact Nat.and_le_right
  omega
/-- all z rows that are kept may be taken back -/
def mk (r : Nat → Int32) (z : Int32) : Prop := ∀ k : Nat, (k : Int) < z.toInt → mrow r (65 * k) 999
theorem mk_less {r : Nat → Int32} {z z' : Int32} (h : mk r z) (hz : z'.toInt ≤ z.toInt) : mk r z' := fun k hk => h k (by omega)
theorem cl_mulR {x y z : Int32} {b : Int} {n : Nat} (q : z = y * x) (h : iv x 0 b) (hy : y.toInt = (n : Int)) (hb : b * n ≤ 2147483647) : z.toNatClampNeg = n * x.toNatClampNeg := by
  rw [cl_mul (n := n) (by rw [q]; exact Int32.mul_comm _ _) h hy hb, Nat.mul_comm]
theorem mk_row {r : Nat → Int32} {z z' : Int32} (h : mk r z) (hz : iv z 1 40) (e : z' = z - 1) : mrow r (65 * z'.toNatClampNeg) 999 := by
  have z1 := hz.1; have z2 := hz.2
  have e1 : (1 : Int32).toInt = 1 := rfl
  have ez : z'.toInt = z.toInt - 1 := by rw [e, iv_tsub (by omega) (by omega), e1]
  refine h _ ?_
  have : ((z'.toNatClampNeg : Nat) : Int) = z'.toInt := by
    show ((z'.toInt.toNat : Nat) : Int) = _
    omega
  omega
theorem mrow_same {r g : Nat → Int32} {o : Nat} {Y : Int} (h : mrow r o Y) (k : ∀ j : Nat, o ≤ j → j < o + 65 → g j = r j) : mrow g o Y := by
  refine ⟨by rw [k o (by omega) (by omega)]; exact h.1, fun p hp => ⟨?_, ?_⟩⟩
  · rw [k _ (by omega) (by omega)]; exact (h.2 p hp).1
  · rw [k _ (by omega) (by omega)]; exact (h.2 p hp).2
theorem mk_keep {r g : Nat → Int32} {z z' : Int32} {o : Nat} (h : mk r z) (hr : mrow g o 999) (hf : ∀ k : Nat, (k < o ∨ o + 65 ≤ k) → g k = r k) (ho : o = 65 * z.toNatClampNeg) (hz : iv z 0 39) (e : z' = z + 1) : mk g z' := by
  intro k hk
  have z1 := hz.1; have z2 := hz.2
  have e1 : (1 : Int32).toInt = 1 := rfl
  have ez : z'.toInt = z.toInt + 1 := by rw [e, iv_tadd (by omega) (by omega), e1]
  have ec : ((z.toNatClampNeg : Nat) : Int) = z.toInt := iv_cl hz (by decide)
  by_cases hkz : k = z.toNatClampNeg
  · rw [hkz, ← ho]; exact hr
  · refine mrow_same (h k (by omega)) (fun j h1 h2 => hf j (Or.inl (by omega)))
/-- one step of the shift down by a row -/
theorem sh_step {r f g : Nat → Int32} {k k' i v : Int32} (h : ∀ j : Nat, ((j : Int) + 65 < k.toInt → f j = r (j + 65)) ∧ (k.toInt ≤ (j : Int) + 65 → f j = r j)) (eg : g = upd f i.toNatClampNeg v) (ev : v = f k.toNatClampNeg) (ei : i = k - 65) (ek : k' = k + 1) (hk : iv k 65 2599) :
    ∀ j : Nat, ((j : Int) + 65 < k'.toInt → g j = r (j + 65)) ∧ (k'.toInt ≤ (j : Int) + 65 → g j = r j) := by
  intro j
  have k1 := hk.1; have k2 := hk.2
  have e1 : (1 : Int32).toInt = 1 := rfl
  have e65 : (65 : Int32).toInt = 65 := rfl
  have ek' : k'.toInt = k.toInt + 1 := by rw [ek, iv_tadd (by omega) (by omega), e1]
  have ei' : i.toInt = k.toInt - 65 := by rw [ei, iv_tsub (by omega) (by omega), e65]
  have ck : ((k.toNatClampNeg : Nat) : Int) = k.toInt := iv_cl hk (by decide)
  have ci : ((i.toNatClampNeg : Nat) : Int) = i.toInt := by
    show ((i.toInt.toNat : Nat) : Int) = _
    omega
  by_cases hj : j = i.toNatClampNeg
  · refine ⟨fun _ => ?_, fun h2 => by omega⟩
    rw [eg, hj, pk_us, ev, (h k.toNatClampNeg).2 (by omega)]
    congr 1; omega
  · rw [eg, pk_un hj]
    exact ⟨fun h2 => (h j).1 (by omega), fun h2 => (h j).2 (by omega)⟩
theorem mk_shift {r g : Nat → Int32} {z z' : Int32} (h : mk r z) (hz : iv z 40 40) (e : z' = z - 1) (hs : ∀ j : Nat, j < 2535 → g j = r (j + 65)) : mk g z' := by
  intro k hk
  have z1 := hz.1; have z2 := hz.2
  have e1 : (1 : Int32).toInt = 1 := rfl
  have ez : z'.toInt = z.toInt - 1 := by rw [e, iv_tsub (by omega) (by omega), e1]
  have hr := h (k + 1) (by omega)
  refine ⟨by rw [hs _ (by omega), show 65 * k + 65 = 65 * (k + 1) by omega]; exact hr.1, fun p hp => ⟨?_, ?_⟩⟩
  · rw [hs _ (by omega), show 65 * k + 25 + 5 * p + 3 + 65 = 65 * (k + 1) + 25 + 5 * p + 3 by omega]; exact (hr.2 p hp).1
  · rw [hs _ (by omega), show 65 * k + 25 + 5 * p + 4 + 65 = 65 * (k + 1) + 25 + 5 * p + 4 by omega]; exact (hr.2 p hp).2
