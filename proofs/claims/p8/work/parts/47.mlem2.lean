/-- the upper half over the lower one, as far as k -/
theorem th_step {r f g : Nat → Int32} {k k' i v h : Int32} {Hn : Nat} {b : Int} (hr : ∀ j : Nat, ((j : Int) < k.toInt → f j = r (Hn + j)) ∧ (k.toInt ≤ (j : Int) → f j = r j)) (eg : g = upd f k.toNatClampNeg v) (ev : v = f i.toNatClampNeg) (ei : i = h + k) (eh : h.toInt = (Hn : Int)) (ek : k' = k + 1) (hk : iv k 0 b) (hb : b + Hn ≤ 2000000) (h0 : 0 < Hn) :
    ∀ j : Nat, ((j : Int) < k'.toInt → g j = r (Hn + j)) ∧ (k'.toInt ≤ (j : Int) → g j = r j) := by
  intro j
  have k1 := hk.1; have k2 := hk.2
  have e1 : (1 : Int32).toInt = 1 := rfl
  have ek' : k'.toInt = k.toInt + 1 := by rw [ek, iv_tadd (by omega) (by omega), e1]
  have ei' : i.toInt = h.toInt + k.toInt := by rw [ei, iv_tadd (by omega) (by omega)]
  have ck : ((k.toNatClampNeg : Nat) : Int) = k.toInt := iv_cl hk (by decide)
  have ci : ((i.toNatClampNeg : Nat) : Int) = i.toInt := by
    show ((i.toInt.toNat : Nat) : Int) = _
    omega
  by_cases hj : j = k.toNatClampNeg
  · refine ⟨fun _ => ?_, fun h2 => by omega⟩
    rw [eg, hj, pk_us, ev, (hr i.toNatClampNeg).2 (by omega)]
    congr 1; omega
  · rw [eg, pk_un hj]
    exact ⟨fun h2 => (hr j).1 (by omega), fun h2 => (hr j).2 (by omega)⟩
theorem cy_step {r f g : Nat → Int32} {k k' v : Int32} {b : Int} (hr : ∀ j : Nat, (j : Int) < k.toInt → f j = r j) (eg : g = upd f k.toNatClampNeg v) (ev : v = r k.toNatClampNeg) (ek : k' = k + 1) (hk : iv k 0 b) (hb : b ≤ 2000000) : ∀ j : Nat, (j : Int) < k'.toInt → g j = r j := by
  intro j hj
  have k1 := hk.1; have k2 := hk.2
  have e1 : (1 : Int32).toInt = 1 := rfl
  have ek' : k'.toInt = k.toInt + 1 := by rw [ek, iv_tadd (by omega) (by omega), e1]
  have ck : ((k.toNatClampNeg : Nat) : Int) = k.toInt := iv_cl hk (by decide)
  by_cases h : j = k.toNatClampNeg
  · rw [eg, h, pk_us, ev]
  · rw [eg, pk_un h]; exact hr j (by omega)
theorem mk_eq {r g : Nat → Int32} {z z' : Int32} (h : mk r z) (e : z' = z) (hz : iv z 0 40) (k : ∀ j : Nat, j < 2600 → g j = r j) : mk g z' := by
  intro i hi
  rw [e] at hi
  have z2 := hz.2
  exact mrow_same (h i hi) (fun j h1 h2 => k j (by omega))
theorem av_eq {r g : Nat → Int32} {n : Nat} {a b : Int} (h : av r n a b) (k : ∀ j : Nat, j < n → g j = r j) : av g n a b := fun j hj => by rw [k j hj]; exact h j hj
