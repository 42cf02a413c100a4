/-! what feed lays on both tapes -/
def ux_cd (x : Int32) : Nat := if 0 < x.toInt ∧ x.toInt < 128 then x.toInt.toNat else 1
theorem ux_B_cd (f : Nat → Int32) (n : Int32) (k : Nat) : ux_B f n k = if (k : Int) < n.toInt then ux_cd (f k) else 0 := rfl
theorem ux_a255 (y : Int32) : (y &&& 255).toInt = y.toInt % 256 := by
  have e1 : (y &&& 255).toInt = (y.toBitVec &&& 255#32).toInt := rfl
  have e2 : y.toInt = y.toBitVec.toInt := rfl
  have e3 : (y.toBitVec &&& 255#32).toNat = y.toBitVec.toNat % 256 := by rw [BitVec.toNat_and]; exact Nat.and_two_pow_sub_one_eq_mod _ 8
  rw [e1, e2, BitVec.toInt_eq_toNat_cond, BitVec.toInt_eq_toNat_cond, e3]
  have := y.toBitVec.isLt
  split <;> split <;> omega
theorem ux_i8 (y : Int32) : y.toInt8.toInt32.toInt = y.toInt % 256 ∧ y.toInt % 256 < 128 ∨ y.toInt8.toInt32.toInt = y.toInt % 256 - 256 ∧ 128 ≤ y.toInt % 256 := by
  rw [Int8.toInt_toInt32, Int32.toInt_toInt8]
  unfold Int.bmod
  have e : ((2 ^ 8 : Nat) : Int) = 256 := rfl
  rw [e]
  by_cases w : y.toInt % 256 < (256 + 1) / 2
  · rw [if_pos w]; omega
  · rw [if_neg w]; omega
theorem ux_cd8 (y : Int32) : ux_cd y.toInt8.toInt32 = ux_cd (y &&& 255) := by
  have h1 := ux_a255 y
  have h2 := ux_i8 y
  have h3 : 0 ≤ y.toInt % 256 ∧ y.toInt % 256 < 256 := by omega
  unfold ux_cd
  rw [h1]
  generalize y.toInt8.toInt32.toInt = u at h2 ⊢
  generalize y.toInt % 256 = v at h2 h3 ⊢
  split <;> split <;> omega
theorem ux_cd88 (y : Int32) : ux_cd (vp_nar .byte y.toInt8.toInt32) = ux_cd (y &&& 255) := by
  have e : vp_nar .byte y.toInt8.toInt32 = y.toInt8.toInt32.toInt8.toInt32 := rfl
  have h3 : y.toInt8.toInt32.toInt8.toInt32 = y.toInt8.toInt32 := by
    refine Int32.toInt_inj.mp ?_
    have h1 := ux_i8 y
    have h2 := ux_i8 y.toInt8.toInt32
    generalize y.toInt8.toInt32.toInt8.toInt32.toInt = u at h2 ⊢
    generalize y.toInt8.toInt32.toInt = v at h1 h2 ⊢
    omega
  rw [e, h3, ux_cd8]
def ux_sl (a b c d e : Int32) (i : Nat) : Int32 := if i < 4 then a else if i < 8 then b else if i < 12 then c else if i < 16 then d else e
def ux_sh (w : Int32) (i : Nat) : Nat := ux_cd ((w >>> Int32.ofNat (24 - 8 * (i % 4))) &&& 255)
def ux_20 (a b c d e : Int32) (i : Nat) : Nat := ux_sh (ux_sl a b c d e i) i
def ux_fe (f0 f : Nat → Int32) (t0 k : Int) (a b c d e : Int32) : Prop := ∀ j : Nat, (j : Int) < t0 + k → ux_cd (f j) = if (j : Int) < t0 then ux_cd (f0 j) else ux_20 a b c d e (j - t0.toNat)
def ux_pb (f0 f : Nat → Int32) (t0 k : Int) (a : Int32) : Prop := ∀ j : Nat, (j : Int) < t0 + k → ux_cd (f j) = if (j : Int) < t0 then ux_cd (f0 j) else ux_sh a (j - t0.toNat)
set_option maxRecDepth 20000 in
theorem ux_sft : ∀ i : Nat, i < 20 → ((24 : Int32) - 8 * (Int32.ofNat i - Int32.ofNat i / 4 * 4)) &&& 31 = Int32.ofNat (24 - 8 * (i % 4)) ∧ (Int32.ofNat i).toInt = (i : Int) := by decide +kernel
set_option maxRecDepth 20000 in
theorem ux_sf4 : ∀ i : Nat, i < 4 → Int32.ofNat (24 - 8 * i) &&& 31 = Int32.ofNat (24 - 8 * (i % 4)) ∧ (Int32.ofNat (24 - 8 * i)).toInt = 24 - 8 * (i : Int) := by decide +kernel
section UXF
variable {f f0 f1 f2 f3 f4 f5 g : Nat → Int32} {a b c d e w k x1 x2 x3 x4 x5 idx sh y n : Int32} {t0 i : Int}
theorem ux_fe_0 (h : i = 0) : ux_fe f f t0 i a b c d e := fun j hj => by rw [if_pos (by omega)]
theorem ux_fe_s (h : ux_fe f0 f t0 k.toInt a b c d e) (h0 : 0 ≤ k.toInt) (h20 : k.toInt < 20) (ht : 0 ≤ t0) (e1 : x1 = k - k / 4 * 4) (e2 : x2 = 8 * x1) (e3 : x3 = 24 - x2) (e4 : x4 = w >>> (x3 &&& 31)) (e5 : x5 = x4 &&& 255) (hw : w = ux_sl a b c d e k.toInt.toNat) (eg : g = upd f idx.toNatClampNeg x5) (hi : idx.toInt = t0 + k.toInt) (hn : i = k.toInt + 1) : ux_fe f0 g t0 i a b c d e := fun j hj => by
  obtain ⟨q, eq⟩ : ∃ q : Nat, q = k.toInt.toNat := ⟨_, rfl⟩
  have hq : q < 20 := by omega
  have ek : k = Int32.ofNat q := Int32.toInt_inj.mp (by rw [(ux_sft q hq).2]; omega)
  have ei : idx.toNatClampNeg = idx.toInt.toNat := rfl
  by_cases v : j = idx.toNatClampNeg
  · rw [v, eg, pk_us, if_neg (by omega), e5, e4, e3, e2, e1]
    have em : idx.toNatClampNeg - t0.toNat = q := by omega
    rw [em]
    unfold ux_20 ux_sh
    rw [hw, ← eq]
    have es := (ux_sft q hq).1
    rw [← ek] at es
    rw [es]
  · rw [eg, pk_un v]; exact h j (by omega)
theorem ux_sl1 (h : k.toInt < 4) : a = ux_sl a b c d e k.toInt.toNat := by unfold ux_sl; rw [if_pos (by omega)]
theorem ux_sl2 (h : 4 ≤ k.toInt) (h1 : k.toInt < 8) : b = ux_sl a b c d e k.toInt.toNat := by unfold ux_sl; rw [if_neg (by omega), if_pos (by omega)]
theorem ux_sl3 (h : 8 ≤ k.toInt) (h1 : k.toInt < 12) : c = ux_sl a b c d e k.toInt.toNat := by unfold ux_sl; rw [if_neg (by omega), if_neg (by omega), if_pos (by omega)]
theorem ux_sl4 (h : 12 ≤ k.toInt) (h1 : k.toInt < 16) : d = ux_sl a b c d e k.toInt.toNat := by unfold ux_sl; rw [if_neg (by omega), if_neg (by omega), if_neg (by omega), if_pos (by omega)]
theorem ux_sl5 (h : 16 ≤ k.toInt) : e = ux_sl a b c d e k.toInt.toNat := by unfold ux_sl; rw [if_neg (by omega), if_neg (by omega), if_neg (by omega), if_neg (by omega)]
theorem ux_pb_0 (h : i = 0) : ux_pb f f t0 i a := fun j hj => by rw [if_pos (by omega)]
theorem ux_pb_s {q : Nat} (h : ux_pb f0 f t0 q a) (hq : q < 4) (hs : sh.toInt = 24 - 8 * (q : Int)) (ht : 0 ≤ t0) (ey : y = a >>> (sh &&& 31)) (en : n = y.toInt8.toInt32) (eg : g = upd f idx.toNatClampNeg (vp_nar .byte n)) (hi : idx.toInt = t0 + q) : ux_pb f0 g t0 (q + 1) a := fun j hj => by
  have ei : idx.toNatClampNeg = idx.toInt.toNat := rfl
  by_cases v : j = idx.toNatClampNeg
  · have em : idx.toNatClampNeg - t0.toNat = q := by omega
    rw [v, eg, pk_us, if_neg (by omega), en, ux_cd88, em]
    unfold ux_sh
    have es : sh = Int32.ofNat (24 - 8 * q) := Int32.toInt_inj.mp (by rw [(ux_sf4 q hq).2]; exact hs)
    rw [ey, es, (ux_sf4 q hq).1]
  · rw [eg, pk_un v]; exact h j (by omega)
theorem ux_pb_r {k' : Int} (h : ux_pb f0 f t0 i a) (e : i = k') : ux_pb f0 f t0 k' a := e ▸ h
theorem ux_p20 (ht : 0 ≤ t0) (h1 : ux_pb f0 f1 t0 4 a) (h2 : ux_pb f1 f2 (t0 + 4) 4 b) (h3 : ux_pb f2 f3 (t0 + 8) 4 c) (h4 : ux_pb f3 f4 (t0 + 12) 4 d) (h5 : ux_pb f4 f5 (t0 + 16) 4 e) : ux_fe f0 f5 t0 20 a b c d e := fun j hj => by
  have q5 := h5 j (by omega)
  by_cases w5 : (j : Int) < t0 + 16
  · rw [if_pos w5] at q5
    have q4 := h4 j (by omega)
    by_cases w4 : (j : Int) < t0 + 12
    · rw [if_pos w4] at q4
      have q3 := h3 j (by omega)
      by_cases w3 : (j : Int) < t0 + 8
      · rw [if_pos w3] at q3
        have q2 := h2 j (by omega)
        by_cases w2 : (j : Int) < t0 + 4
        · rw [if_pos w2] at q2
          have q1 := h1 j (by omega)
          rw [q5, q4, q3, q2, q1]
          by_cases w1 : (j : Int) < t0
          · rw [if_pos w1, if_pos w1]
          · rw [if_neg w1, if_neg w1]
            unfold ux_20 ux_sl ux_sh
            rw [if_pos (by omega)]
        · rw [if_neg w2] at q2
          rw [q5, q4, q3, q2, if_neg (by omega)]
          have em : (j - (t0 + 4).toNat) % 4 = (j - t0.toNat) % 4 := by omega
          unfold ux_20 ux_sl ux_sh
          rw [em, if_neg (by omega), if_pos (by omega)]
      · rw [if_neg w3] at q3
        rw [q5, q4, q3, if_neg (by omega)]
        have em : (j - (t0 + 8).toNat) % 4 = (j - t0.toNat) % 4 := by omega
        unfold ux_20 ux_sl ux_sh
        rw [em, if_neg (by omega), if_neg (by omega), if_pos (by omega)]
    · rw [if_neg w4] at q4
      rw [q5, q4, if_neg (by omega)]
      have em : (j - (t0 + 12).toNat) % 4 = (j - t0.toNat) % 4 := by omega
      unfold ux_20 ux_sl ux_sh
      rw [em, if_neg (by omega), if_neg (by omega), if_neg (by omega), if_pos (by omega)]
  · rw [if_neg w5] at q5
    rw [q5, if_neg (by omega)]
    have em : (j - (t0 + 16).toNat) % 4 = (j - t0.toNat) % 4 := by omega
    unfold ux_20 ux_sl ux_sh
    rw [em, if_neg (by omega), if_neg (by omega), if_neg (by omega), if_neg (by omega)]
theorem ux_tp_s {n n' v : Int32} (h : ux_tp f n) (eg : g = upd f idx.toNatClampNeg v) (hi : idx.toInt = n.toInt) (hv : iv v 0 255) (hn : n'.toInt = n.toInt + 1) : ux_tp g n' := fun j hj => by
  have ei : idx.toNatClampNeg = idx.toInt.toNat := rfl
  by_cases w : j = idx.toNatClampNeg
  · rw [w, eg, pk_us]; exact hv
  · rw [eg, pk_un w]; exact h j (by omega)
end UXF
