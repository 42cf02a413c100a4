/-! inequalities, each once, away from the worlds -/
theorem omE_add {x y z : Int32} (e : z = x + y) (h1 : -2147483648 ≤ x.toInt + y.toInt) (h2 : x.toInt + y.toInt ≤ 2147483647) : z.toInt = x.toInt + y.toInt := by rw [e]; exact iv_tadd h1 h2
theorem omE_sub {x y z : Int32} (e : z = x - y) (h1 : -2147483648 ≤ x.toInt - y.toInt) (h2 : x.toInt - y.toInt ≤ 2147483647) : z.toInt = x.toInt - y.toInt := by rw [e]; exact iv_tsub h1 h2
theorem omE_mulL {x y z : Int32} {n : Int} (e : z = x * y) (q : x.toInt = n) (h1 : -2147483648 ≤ n * y.toInt) (h2 : n * y.toInt ≤ 2147483647) : z.toInt = n * y.toInt := by rw [e, iv_tmul (by rw [q]; exact h1) (by rw [q]; exact h2), q]
theorem omE_mulR {x y z : Int32} {n : Int} (e : z = x * y) (q : y.toInt = n) (h1 : -2147483648 ≤ x.toInt * n) (h2 : x.toInt * n ≤ 2147483647) : z.toInt = x.toInt * n := by rw [e, iv_tmul (by rw [q]; exact h1) (by rw [q]; exact h2), q]
theorem omR0 {a f m b l g K gv : Nat} (hg : 1 ≤ gv) (h1 : Nat.ble (a + 1) (f + g) = true) (h2 : Nat.ble (8 + (m + 11) + b) (l + K) = true) : a + g * (gv - 1) + 1 ≤ f + g * gv ∧ 8 + (m + 11) + (b + K * (gv - 1)) ≤ l + K * gv := by
  have h1 := Nat.le_of_ble_eq_true h1
  have h2 := Nat.le_of_ble_eq_true h2
  obtain ⟨k, rfl⟩ : ∃ k, gv = k + 1 := ⟨gv - 1, by omega⟩
  rw [Nat.add_sub_cancel, Nat.mul_add, Nat.mul_add, Nat.mul_one, Nat.mul_one]
  generalize g * k = x
  generalize K * k = y
  exact ⟨by omega, by omega⟩
theorem omR2 {a f m b l g K gv : Nat} (h1 : Nat.ble (a + 1) f = true) (h2 : Nat.ble (8 + (m + 11) + b) l = true) : a + g * gv + 1 ≤ f + g * gv ∧ 8 + (m + 11) + (b + K * gv) ≤ l + K * gv := by
  have h1 := Nat.le_of_ble_eq_true h1
  have h2 := Nat.le_of_ble_eq_true h2
  generalize g * gv = x
  generalize K * gv = y
  exact ⟨by omega, by omega⟩
theorem omR1 {a f m b l g K gv : Nat} (h1 : Nat.ble (a + 1) f = true) (h2 : Nat.ble (8 + (m + 11) + b) l = true) : a + 1 ≤ f + g * gv ∧ 8 + (m + 11) + b ≤ l + K * gv := by
  have h1 := Nat.le_of_ble_eq_true h1
  have h2 := Nat.le_of_ble_eq_true h2
  generalize g * gv = x
  generalize K * gv = y
  exact ⟨by omega, by omega⟩
theorem omx_0 {v0 v1 v2 v3 : Int} (h0 : v0 ≤ 15) (h1 : v0 < v1) (h2 : v2 ≤ v0) (h3 : v1 = 2 * v2) (h4 : v3 = v0 - v2) : 0 ≤ v3 ∧ v3 < 8 := by omega
theorem omx_1 {v0 : Int} (h0 : 0 ≤ v0) : -2147483648 ≤ 2 * v0 := by omega
theorem omx_2 {v0 : Int} (h0 : v0 ≤ 8) : 2 * v0 ≤ 2147483647 := by omega
theorem omx_3 {v0 v1 : Int} (h0 : v0 ≤ v1) : -2147483648 ≤ v1 - v0 := by omega
theorem omx_4 {v0 v1 : Int} (h0 : v0 ≤ 15) (h1 : 0 ≤ v1) : v0 - v1 ≤ 2147483647 := by omega
theorem omx_5 {v0 : Int} (h0 : 8 ≤ v0) : (v0 < 8 ∧ v0 = v0 + 1) ∨ (8 ≤ v0 ∧ v0 = v0) := by omega
theorem omx_6 {v0 v1 v2 : Int} (h0 : v0 ≤ 7) (h1 : v1 = 1) (h2 : v2 = v0 + v1) : (v0 < 8 ∧ v2 = v0 + 1) ∨ (8 ≤ v0 ∧ v2 = v0) := by omega
theorem omx_7 {v0 v1 : Int} (h0 : 0 ≤ v0) (h1 : v1 = 1) : -2147483648 ≤ v0 + v1 := by omega
theorem omx_8 {v0 v1 : Int} (h0 : v0 ≤ 7) (h1 : v1 = 1) : v0 + v1 ≤ 2147483647 := by omega
theorem omx_9 {v0 v1 : Int} (h0 : 0 ≤ v0 ∧ v0 < v1) : v0 < v1 := by omega
theorem omx_10 {v0 v1 v2 v3 v4 v5 : Int} (h0 : v0 < v1) (h1 : 2 ≤ v2) (h2 : v3 = 1) (h3 : v4 = 0) (h4 : v5 ≤ 7) (h5 : v0 ≠ v4) (h6 : v0 ≠ v5) (h7 : v5 = v1 - v3) (h8 : v2 = v0 + v3) : 0 ≤ v2 ∧ v2 < 8 := by omega
theorem omx_11 {v0 v1 : Int} (h0 : 1 ≤ v0) (h1 : v1 = 1) : -2147483648 ≤ v0 - v1 := by omega
theorem omx_12 {v0 v1 : Int} (h0 : v0 ≤ 8) (h1 : v1 = 1) : v0 - v1 ≤ 2147483647 := by omega
theorem omx_13 {v0 v1 : Int} (h0 : 1 ≤ v0) (h1 : v1 = 1) : -2147483648 ≤ v0 + v1 := by omega
theorem omx_14 {v0 v1 : Int} (h0 : v0 < v1) : v0 < v1 := by omega
theorem omx_15 {v0 v1 v2 : Int} (h0 : v0 + 1 ≤ 5000) (h1 : 1 ≤ v1) (h2 : v2 = 1) (h3 : v1 = v0 + v2) : 0 ≤ v1 ∧ v1 ≤ 5000 := by omega
theorem omx_16 {v0 v1 : Int} (h0 : v0 + 1 ≤ 5000) (h1 : v1 = 1) : v0 + v1 ≤ 2147483647 := by omega
theorem omx_17 {v0 v1 v2 : Int} (h0 : v0 = 1) (h1 : v1 = v2 + v0) : v1 = v2 + 1 := by omega
theorem omx_18 {v0 v1 v2 v3 : Int} (h0 : v0 = v1 + v2) (h1 : v2 ≤ v3) (h2 : v3 ≤ v2) : v0 = v1 + v3 := by omega
theorem omx_19 {v0 v1 v2 v3 : Int} (h0 : v0 = v1 + v2) (h1 : v1 + v3 ≤ 5000) (h2 : v2 < v3) : v0 + 1 ≤ 5000 := by omega
theorem omx_20 {v0 v1 v2 v3 v4 v5 : Int} (h0 : v0 = v1 + v2) (h1 : v3 = v0 + 1) (h2 : v4 = 1) (h3 : v5 = v2 + v4) : v3 = v1 + v5 := by omega
theorem omx_21 {v0 v1 : Int} (h0 : v0 ≤ 59) (h1 : v1 = 1) : v0 + v1 ≤ 2147483647 := by omega
theorem omx_22 {v0 v1 v2 v3 : Int} (h0 : v0 = 1) (h1 : v1 < v2) (h2 : v3 = v1 + v0) : v3 ≤ v2 := by omega
theorem omx_23 {v0 v1 : Int} (h0 : v0 = 0) : v1 = v1 + v0 := by omega
theorem omx_24 {v0 v1 : Int} (h0 : v0 = 0) (h1 : 0 ≤ v1) : v0 ≤ v1 := by omega
theorem omx_25 {v0 v1 v2 : Int} (h0 : v0 = v1 + v2) (h1 : v1 ≤ 4000) (h2 : v2 ≤ 60) : v0 + 1 ≤ 5000 := by omega
theorem omx_26 {v0 v1 : Int} (h0 : v0 ≤ 60) (h1 : v1 = 1) : v0 + v1 ≤ 2147483647 := by omega
theorem omx_27 {v0 v1 v2 v3 v4 : Int} (h0 : v0 ≤ v1 + v2 + 1) (h1 : v3 = 1) (h2 : v4 = v2 + v3) : v0 ≤ v1 + v4 := by omega
theorem omx_28 {v0 v1 : Int} (h0 : v0 ≤ 20) (h1 : v1 = 1) : v0 + v1 ≤ 2147483647 := by omega
theorem omx_29 {v0 v1 v2 : Int} (h0 : v0 ≤ v1 + v2) : v0 ≤ v1 + v2 + 1 := by omega
theorem omx_30 {v0 v1 v2 : Int} (h0 : v0 ≤ v1 + v2) (h1 : v1 ≤ 4000) (h2 : v2 ≤ 19) : v0 + 1 ≤ 5000 := by omega
theorem omx_31 {v0 v1 v2 v3 : Int} (h0 : v0 ≤ v1 + v2) (h1 : v3 = v0 + 1) : v3 ≤ v1 + v2 + 1 := by omega
theorem omx_32 {v0 v1 : Int} (h0 : v0 = 0) : v1 ≤ v1 + v0 := by omega
theorem omx_33 {v0 v1 : Int} (h0 : v0 = v1) (h1 : v1 + 1 ≤ 5000) : v0 + 1 ≤ 5000 := by omega
theorem omx_34 {v0 v1 v2 : Int} (h0 : v0 = v1) (h1 : v2 = v0 + 1) : v2 = v1 + 1 := by omega
theorem omx_35 {v0 : Int}  : v0 = v0 := by omega
theorem omx_36 {v0 : Int} (h0 : v0 = 0) : v0 = 0 := by omega
theorem omx_37 {v0 v1 : Int} (h0 : v0 ≤ v1) : v0 ≤ v1 := by omega
theorem omx_38 {v0 v1 : Int} (h0 : v0 ≤ v1) (h1 : v1 ≤ v0) : v0 = v1 := by omega
theorem omx_39 {v0 : Int}  : v0 ≤ v0 := by omega
theorem omx_40 {v0 v1 v2 v3 : Int} (h0 : v0 ≤ v1) (h1 : v2 = 1) (h2 : v3 = v1 + v2) : v0 ≤ v3 := by omega
theorem omx_41 {v0 v1 : Int} (h0 : v0 ≤ 699) (h1 : v1 = 1) : v0 + v1 ≤ 2147483647 := by omega
theorem omx_42 {v0 v1 : Int} (h0 : v0 = v1) : v0 = v1 := by omega
theorem omx_43 {v0 : Int} (h0 : 0 ≤ v0) : 0 ≤ v0 := by omega
theorem omx_44 {v0 v1 : Int} (h0 : v0 < v1) : v0 ≤ v1 := by omega
theorem omx_45 {v0 v1 : Int} (h0 : v0 ≠ v1) : v0 ≠ v1 := by omega
theorem omx_46 {v0 v1 : Int} (h0 : v0 ≤ 16) (h1 : v1 = 1) : v0 + v1 ≤ 2147483647 := by omega
theorem omx_47 {v0 v1 v2 v3 : Int} (h0 : v0 = v1) (h1 : v0 = v2 + v3) : v1 = v2 + v3 := by omega
theorem omx_48 {v0 v1 : Int} (h0 : 0 ≤ v0) (h1 : 0 ≤ v1) : -2147483648 ≤ v1 + v0 := by omega
theorem omx_49 {v0 v1 : Int} (h0 : v0 ≤ 700) (h1 : v1 ≤ 40) : v0 + v1 ≤ 2147483647 := by omega
theorem omx_50 {v0 v1 v2 v3 v4 : Int} (h0 : v0 ≤ v1) (h1 : v2 = v0) (h2 : v2 = v3 + v4) (h3 : v1 = v3 + v4) : v0 = v3 + v4 := by omega
theorem omx_51 {v0 v1 : Int} (h0 : v0 ≤ 700) (h1 : v1 ≤ 39) : v0 + v1 ≤ 2147483647 := by omega
theorem omx_52 {v0 v1 v2 v3 : Int} (h0 : 0 ≤ v0) (h1 : v1 ≤ 699) (h2 : v1 = v2 + v3) (h3 : v0 = v2 + v3) : 0 ≤ v0 ∧ v0 < 700 := by omega
theorem omx_53 {v0 v1 : Int} (h0 : v0 ≤ 39) (h1 : v1 ≤ 700) : v1 + v0 ≤ 2147483647 := by omega
theorem omx_54 {v0 v1 v2 : Int} (h0 : v0 = v1 + v2) : v0 = v1 + v2 := by omega
theorem omx_55 {v0 v1 v2 v3 v4 v5 : Int} (h0 : v0 ≤ v1) (h1 : v2 < v0) (h2 : v2 = v3 + v4) (h3 : v5 = v3 + v4) : v5 < v1 := by omega
theorem omx_56 {v0 v1 v2 v3 v4 : Int} (h0 : v0 < v1) (h1 : v2 = v1) (h2 : v2 = v3 + v4) (h3 : v0 = v3 + v4) : v1 = v3 + v4 := by omega
theorem omx_57 {v0 : Int} (h0 : 1 ≤ v0) : 0 ≤ v0 := by omega
theorem omx_58 {v0 v1 : Int} (h0 : v0 ≤ 39) (h1 : v1 = 1) : v0 + v1 ≤ 2147483647 := by omega
theorem omx_59 {v0 : Int} (h0 : 17 ≤ v0) : 17 ≤ v0 := by omega
theorem omx_60 {v0 : Int} (h0 : v0 = 0) : 0 ≤ v0 := by omega
theorem omx_61 {v0 v1 v2 : Int} (h0 : (v0 - v1 = 0 ∧ 0 ≤ v2 ∧ v2 ≤ 0) ∨ (v0 - v1 = 1 ∧ 0 ≤ v2 ∧ v2 ≤ 9) ∨ (v0 - v1 = 2 ∧ 0 ≤ v2 ∧ v2 ≤ 99) ∨ (v0 - v1 = 3 ∧ 0 ≤ v2 ∧ v2 ≤ 999) ∨ (v0 - v1 = 4 ∧ 0 ≤ v2 ∧ v2 ≤ 9999)) : 0 ≤ v2 ∧ v2 ≤ 10000 := by omega
theorem omx_62 {v0 v1 : Int} (h0 : v0 - v1 ≤ 4) : v0 - v1 ≤ 4 := by omega
theorem omx_63 {v0 v1 v2 : Int} (h0 : (v0 - v1 = 0 ∧ 0 ≤ v2 ∧ v2 ≤ 0) ∨ (v0 - v1 = 1 ∧ 0 ≤ v2 ∧ v2 ≤ 9) ∨ (v0 - v1 = 2 ∧ 0 ≤ v2 ∧ v2 ≤ 99) ∨ (v0 - v1 = 3 ∧ 0 ≤ v2 ∧ v2 ≤ 999) ∨ (v0 - v1 = 4 ∧ 0 ≤ v2 ∧ v2 ≤ 9999)) : v1 ≤ v0 := by omega
theorem omx_64 {v0 v1 v2 : Int} (h0 : v0 ≤ v1) (h1 : v2 < v0) : v2 < v1 := by omega
theorem omx_65 {v0 v1 v2 v3 v4 v5 : Int} (h0 : v0 = 48) (h1 : v1 = 10 * v2) (h2 : v3 = v1 + v4) (h3 : v5 = v3 - v0) : v5 = 10 * v2 + v4 - 48 := by omega
theorem omx_66 {v0 v1 v2 : Int} (h0 : (v0 - v1 = 0 ∧ 0 ≤ v2 ∧ v2 ≤ 0) ∨ (v0 - v1 = 1 ∧ 0 ≤ v2 ∧ v2 ≤ 9) ∨ (v0 - v1 = 2 ∧ 0 ≤ v2 ∧ v2 ≤ 99) ∨ (v0 - v1 = 3 ∧ 0 ≤ v2 ∧ v2 ≤ 999) ∨ (v0 - v1 = 4 ∧ 0 ≤ v2 ∧ v2 ≤ 9999)) : -2147483648 ≤ 10 * v2 := by omega
theorem omx_67 {v0 v1 v2 : Int} (h0 : (v0 - v1 = 0 ∧ 0 ≤ v2 ∧ v2 ≤ 0) ∨ (v0 - v1 = 1 ∧ 0 ≤ v2 ∧ v2 ≤ 9) ∨ (v0 - v1 = 2 ∧ 0 ≤ v2 ∧ v2 ≤ 99) ∨ (v0 - v1 = 3 ∧ 0 ≤ v2 ∧ v2 ≤ 999) ∨ (v0 - v1 = 4 ∧ 0 ≤ v2 ∧ v2 ≤ 9999)) : 10 * v2 ≤ 2147483647 := by omega
theorem omx_68 {v0 v1 v2 v3 v4 : Int} (h0 : (v0 - v1 = 0 ∧ 0 ≤ v2 ∧ v2 ≤ 0) ∨ (v0 - v1 = 1 ∧ 0 ≤ v2 ∧ v2 ≤ 9) ∨ (v0 - v1 = 2 ∧ 0 ≤ v2 ∧ v2 ≤ 99) ∨ (v0 - v1 = 3 ∧ 0 ≤ v2 ∧ v2 ≤ 999) ∨ (v0 - v1 = 4 ∧ 0 ≤ v2 ∧ v2 ≤ 9999)) (h1 : 48 ≤ v3) (h2 : v4 = 10 * v2) : -2147483648 ≤ v4 + v3 := by omega
theorem omx_69 {v0 v1 v2 v3 v4 : Int} (h0 : (v0 - v1 = 0 ∧ 0 ≤ v2 ∧ v2 ≤ 0) ∨ (v0 - v1 = 1 ∧ 0 ≤ v2 ∧ v2 ≤ 9) ∨ (v0 - v1 = 2 ∧ 0 ≤ v2 ∧ v2 ≤ 99) ∨ (v0 - v1 = 3 ∧ 0 ≤ v2 ∧ v2 ≤ 999) ∨ (v0 - v1 = 4 ∧ 0 ≤ v2 ∧ v2 ≤ 9999)) (h1 : v3 ≤ 57) (h2 : v4 = 10 * v2) : v4 + v3 ≤ 2147483647 := by omega
theorem omx_70 {v0 v1 v2 : Int} (h0 : v0 ≤ 4) (h1 : v0 = v1 - v2) : v1 - v2 ≤ 4 := by omega
theorem omx_71 {v0 v1 : Int} (h0 : v0 ≤ 700) (h1 : 0 ≤ v1) : v0 - v1 ≤ 2147483647 := by omega
theorem omx_72 {v0 v1 v2 : Int} (h0 : 5 ≤ v0) (h1 : v0 = v1 - v2) : 4 < v1 - v2 := by omega
theorem omx_73 {v0 : Int} (h0 : 1 ≤ v0) (h1 : v0 ≤ 1) : v0 = 1 := by omega
theorem omx_74 {v0 v1 : Int} (h0 : v0 = 1) (h1 : v1 ≠ v0) : v1 ≠ 1 := by omega
theorem omx_75 {v0 v1 v2 : Int} (h0 : v0 = 1) (h1 : v1 = 2) (h2 : v2 ≠ v0) (h3 : v2 ≠ v1) : v2 ≠ 2 := by omega
theorem omx_76 {v0 v1 v2 : Int} (h0 : v0 = 1) (h1 : v1 = v2 + v0) : v2 ≤ v1 := by omega
theorem omx_77 {v0 : Int} (h0 : 2 ≤ v0) (h1 : v0 ≤ 2) : v0 = 2 := by omega
theorem omx_78 {v0 : Int} (h0 : 1 ≤ v0) : v0 ≤ 5 * v0 := by omega
theorem omx_79 {v0 v1 : Int}  : 1 ≤ v0 ∨ v1 = v1 := by omega
theorem omx_80 {v0 : Int} (h0 : 1 ≤ v0) : 1 ≤ v0 := by omega
theorem omx_81 {v0 : Int} (h0 : 1 ≤ v0) : v0 ≠ 0 := by omega
theorem omx_82 {v0 v1 : Int} (h0 : v0 ≤ 0) (h1 : 1 ≤ v1) : v0 ≤ 5 * v1 := by omega
theorem omx_83 {v0 v1 v2 : Int} (h0 : 1 ≤ v0) : 1 ≤ v0 ∨ v1 = v2 := by omega
theorem omx_84 {v0 : Int} (h0 : 0 ≤ v0) (h1 : v0 ≤ 0) : v0 = 0 := by omega
theorem omx_85 {v0 v1 : Int} (h0 : 1 ≤ v0) : v1 ≤ v1 + 1000 * v0 := by omega
theorem omx_86 {v0 v1 v2 : Int} (h0 : 1 ≤ v0) : v1 + 1 ≤ v1 + 1000 * v0 ∨ v2 = 0 := by omega
theorem omx_87 {v0 : Int} (h0 : 0 ≤ v0) : v0 ≤ 5 * v0 := by omega
theorem omx_88 {v0 v1 : Int} (h0 : 1 ≤ v0) : v1 = 2 ∨ 1 ≤ v0 := by omega
theorem omx_89 {v0 v1 v2 : Int} (h0 : 1 ≤ v0) (h1 : v1 ≤ v2) : v1 ≤ v2 + 20000 * v0 := by omega
theorem omx_90 {v0 v1 : Int} (h0 : 1 ≤ v0) : v1 + 1 ≤ v1 + 1000 * v0 := by omega
theorem omx_91 {v0 v1 : Int} (h0 : 2 ≤ v0) (h1 : v0 ≤ 2) : v0 = 2 ∨ 1 ≤ v1 := by omega
theorem omx_92 {v0 v1 v2 : Int} (h0 : 0 ≤ v0) (h1 : v1 ≤ v2) : v1 ≤ v2 + 20000 * v0 := by omega
theorem omx_93 {v0 v1 v2 : Int} (h0 : 1 ≤ v0) (h1 : v1 ≤ 10006) (h2 : 0 ≤ v2) : v1 ≤ v2 + 20000 * v0 := by omega
theorem omx_94 {v0 v1 : Int} (h0 : v0 = 2) (h1 : v1 ≠ v0) : v1 ≠ 2 := by omega
theorem omx_95 {v0 : Int} (h0 : 700 ≤ v0) : 1 ≤ v0 := by omega
theorem omx_96 {v0 : Int} (h0 : 700 ≤ v0) : 700 ≤ v0 := by omega
theorem omx_97 {v0 : Int} (h0 : v0 ≤ 699) : v0 < 700 := by omega
theorem omx_98 {v0 v1 : Int} (h0 : 1 ≤ v0) (h1 : 0 ≤ v1) : 1 ≤ v1 + v0 := by omega
theorem omx_99 {v0 : Int} (h0 : v0 = 0) : v0 ≤ 5 * v0 := by omega
theorem omx_100 {v0 v1 : Int} (h0 : v0 = 0) (h1 : 1 ≤ v1) : 1 ≤ v1 + v0 := by omega
theorem omx_101 {v0 v1 v2 : Int} (h0 : v0 = 2 ∨ 1 ≤ v1) (h1 : v2 = 40) (h2 : v0 ≠ v2) : v0 ≠ 40 := by omega
theorem omx_102 {v0 v1 v2 : Int} (h0 : v0 = 2 ∨ 1 ≤ v1) (h1 : v2 = 1) (h2 : v0 ≠ v2) : v0 ≠ 1 := by omega
theorem omx_103 {v0 v1 v2 : Int} (h0 : v0 = 0) (h1 : v0 ≤ 5 * v1) (h2 : 1 ≤ v2) : 1 ≤ v2 + v1 := by omega
theorem omx_104 {v0 v1 v2 : Int} (h0 : v0 = 0) (h1 : v0 ≤ 5 * v1) (h2 : v1 ≤ 5 * v2) : v0 ≤ 5 * v2 := by omega
theorem omx_105 {v0 v1 v2 v3 v4 : Int} (h0 : 1 ≤ v0 ∨ v1 = v2) (h1 : v0 ≤ 5 * v3) (h2 : 1 ≤ v3 ∨ v4 = v1) : 1 ≤ v3 ∨ v4 = v2 := by omega
theorem omx_106 {v0 : Int} (h0 : 40 ≤ v0) (h1 : v0 ≤ 40) : v0 = 40 := by omega
theorem omx_107 {v0 v1 v2 : Int} (h0 : 1 ≤ v0 + v1) (h1 : v1 ≤ 5 * v2) (h2 : 0 ≤ v0) : 1 ≤ v0 + v2 := by omega
theorem omx_108 {v0 v1 : Int} (h0 : v0 ≤ 5 * v1) (h1 : v0 = 0) (h2 : v1 ≤ 0) : v1 = 0 := by omega
theorem omx_109 {v0 v1 v2 v3 : Int} (h0 : v0 ≤ v1) (h1 : v1 ≤ v2) (h2 : v2 ≤ v3) : v0 ≤ v3 := by omega
theorem omx_110 {v0 v1 v2 v3 : Int} (h0 : v0 ≤ 5 * v1) (h1 : v0 = 0) (h2 : v1 ≤ 5 * v2) (h3 : 1 ≤ v3) : 1 ≤ v3 + v2 := by omega
theorem omx_111 {v0 v1 v2 : Int} (h0 : v0 ≤ 5 * v1) (h1 : v0 = 0) (h2 : v1 ≤ 5 * v2) : v0 ≤ 5 * v2 := by omega
theorem omx_112 {v0 v1 v2 v3 v4 : Int} (h0 : 1 ≤ v0 ∨ v1 = v2) (h1 : 1 ≤ v3 ∨ v4 = v1) (h2 : v0 ≤ 0) : 1 ≤ v3 ∨ v4 = v2 := by omega
theorem omx_113 {v0 v1 v2 v3 : Int} (h0 : v0 + 1 ≤ v1 + 1000 * v2) (h1 : v3 = 0) (h2 : 0 ≤ v0) : v3 ≤ v1 + 1000 * v2 := by omega
theorem omx_114 {v0 v1 : Int} (h0 : v0 = 0) (h1 : v0 ≤ 5 * v1) (h2 : v1 ≤ 0) : v1 = 0 := by omega
theorem omx_115 {v0 v1 v2 v3 : Int} (h0 : v0 = 0) (h1 : v0 ≤ 5 * v1) (h2 : v1 ≤ 5 * v2) (h3 : 1 ≤ v3) : 1 ≤ v3 + v2 := by omega
theorem omx_116 {v0 v1 : Int} (h0 : v0 = 60) (h1 : v1 ≠ v0) : v1 ≠ 60 := by omega
theorem omx_117 {v0 v1 v2 : Int} (h0 : v0 = 60) (h1 : v1 = 61) (h2 : v2 ≠ v0) (h3 : v2 ≠ v1) : v2 ≠ 61 := by omega
theorem omx_118 {v0 v1 v2 : Int} (h0 : v0 ≤ v1) (h1 : v1 ≤ v2) : v0 ≤ v2 := by omega
theorem omx_119 {v0 v1 v2 : Int} (h0 : v0 ≤ 5 * v1) (h1 : v0 = 0) (h2 : 1 ≤ v2) : 1 ≤ v2 + v1 := by omega
theorem omx_120 {v0 v1 : Int} (h0 : 0 ≤ v0) (h1 : v0 < v1) : 0 ≤ v0 ∧ v0 < v1 := by omega
theorem omx_121 {v0 v1 : Int} (h0 : v0 ≤ 5) (h1 : v1 = 1) : v0 + v1 ≤ 2147483647 := by omega
theorem omx_122 {v0 v1 : Int} (h0 : v0 = 0) (h1 : v1 ≤ 5 * v0) (h2 : v1 = 0) : v0 = 0 := by omega
theorem omx_123 {v0 v1 v2 v3 : Int} (h0 : v0 ≤ v1) (h1 : v1 + 1 ≤ v2 + 1000 * v3) : v0 + 1 ≤ v2 + 1000 * v3 := by omega
theorem omx_124 {v0 v1 v2 v3 v4 : Int} (h0 : v0 = 0) (h1 : 1 ≤ v0 ∨ v1 = v2) (h2 : 1 ≤ v3 ∨ v4 = v1) : 1 ≤ v3 ∨ v4 = v2 := by omega
theorem omx_125 {v0 v1 : Int} (h0 : v0 = 0) (h1 : 1 ≤ v1) : v0 ≤ 5 * v1 := by omega
theorem omx_126 {v0 : Int} (h0 : 6 ≤ v0) (h1 : v0 ≤ 6) : v0 = 6 := by omega
theorem omx_127 {v0 v1 v2 : Int} (h0 : v0 ≤ v1) (h1 : 1 ≤ v2) : v0 + 1 ≤ v1 + 1000 * v2 := by omega
theorem omx_128 {v0 : Int} (h0 : v0 ≤ 5) : v0 < 6 := by omega
theorem omx_129 {v0 v1 : Int} (h0 : v0 + v1 = 6) (h1 : v0 ≤ 5) : 1 ≤ v1 := by omega
theorem omx_130 {v0 v1 : Int} (h0 : v0 + v1 = 6) (h1 : 6 ≤ v0) (h2 : v0 ≤ 6) (h3 : 0 ≤ v1) : v1 = 0 ∧ v0 = 6 := by omega
theorem omx_131 {v0 v1 v2 : Int} (h0 : v0 = 2) (h1 : v1 = 1) (h2 : v2 ≠ v0) (h3 : v2 ≠ v1) : v2 ≠ 1 := by omega
theorem omx_132 {v0 v1 v2 : Int} (h0 : v0 = 2) (h1 : v1 = 40) (h2 : v2 ≠ v0) (h3 : v2 ≠ v1) : v2 ≠ 40 := by omega
theorem omx_133 {v0 v1 v2 v3 : Int} (h0 : v0 = 0) (h1 : v1 ≤ v2 + 20000 * v3) (h2 : 0 ≤ v1) (h3 : v2 = 99) : v0 ≤ 5 * v3 := by omega
theorem omx_134 {v0 : Int} (h0 : v0 ≤ 7) : v0 < 8 := by omega
theorem omx_135 {v0 v1 v2 v3 : Int} (h0 : v0 = 1) (h1 : v1 = v2 + v0) : (v1 = v2 + 1) ∨ 1 ≤ v3 := by omega
theorem omx_136 {v0 : Int} (h0 : 8 ≤ v0) : 8 ≤ v0 := by omega
theorem omx_137 {v0 v1 : Int} (h0 : 1 ≤ v0) : (v1 = v1 + 1) ∨ 1 ≤ v0 := by omega
theorem omx_138 {v0 v1 v2 v3 : Int} (h0 : v0 = 2 ∨ 1 ≤ v1) (h1 : v2 ≤ 10006) (h2 : v3 = 2) (h3 : v0 ≠ v3) : v2 ≤ 7 + 20000 * v1 := by omega
theorem omx_139 {v0 v1 v2 : Int} (h0 : v0 + 1 ≤ v1 + 1000 * v2) : v0 ≤ v1 + 1000 * v2 := by omega
theorem omx_140 {v0 v1 v2 v3 : Int} (h0 : v0 ≤ 5 * v1) (h1 : v2 = v3) (h2 : 1 ≤ v0) (h3 : v3 ≤ 7) : v2 ≤ 7 + 20000 * v1 := by omega
theorem omx_141 {v0 v1 v2 v3 : Int} (h0 : 1 ≤ v0) (h1 : v0 ≤ 5 * v1) : 1 ≤ v1 ∨ v2 = v3 := by omega
theorem omx_142 {v0 v1 v2 v3 v4 : Int} (h0 : v0 = 2 ∨ 1 ≤ v1) (h1 : v2 ≤ 700) (h2 : 0 ≤ v3) (h3 : v4 = 2) (h4 : v0 ≠ v4) : v2 ≤ v3 + 1000 * v1 := by omega
theorem omx_143 {v0 v1 v2 v3 : Int} (h0 : v0 ≤ 5 * v1) (h1 : v2 = v3) (h2 : 0 ≤ v0) (h3 : v3 ≤ 7) : v2 ≤ 7 + 20000 * v1 := by omega
theorem omx_144 {v0 v1 v2 : Int} (h0 : 1 ≤ v0) (h1 : v0 ≤ 5 * v1) (h2 : v2 ≤ 0) : v2 ≤ 5 * v1 := by omega
theorem omx_145 {v0 : Int} (h0 : v0 ≤ 9999) : v0 ≤ 9999 := by omega
theorem omx_146 {v0 v1 v2 v3 : Int} (h0 : v0 = 0) (h1 : v1 ≤ v2 + 20000 * v3) (h2 : 0 ≤ v1) (h3 : v2 = 99) : v0 ≤ 5 * v3 ∧ 0 ≤ v0 := by omega
theorem omx_147 {v0 v1 v2 : Int} (h0 : v0 = 0) (h1 : v1 ≤ 7 + 20000 * v2) (h2 : 0 ≤ v1) : v0 ≤ 5 * v2 := by omega
theorem omx_148 {v0 v1 v2 : Int} (h0 : v0 = 0) (h1 : v1 ≤ 7 + 20000 * v2) (h2 : 0 ≤ v1) : v0 ≤ 5 * v2 ∧ 0 ≤ v0 := by omega
theorem omx_149 {v0 v1 : Int} (h0 : v0 = 0) (h1 : 1 ≤ v1) : v0 ≤ 5 * v1 ∧ 0 ≤ v0 := by omega
theorem omx_150 {v0 v1 v2 : Int} (h0 : 1 ≤ v0 ∨ v1 = v2 + 1) (h1 : 8 ≤ v2) : 1 ≤ v1 ∨ 1 ≤ v0 := by omega
theorem omx_151 {v0 : Int} (h0 : v0 ≤ 8) : v0 ≤ 8 := by omega
theorem omx_152 {v0 v1 : Int} (h0 : 1 ≤ v0) : 1 ≤ v1 ∨ 1 ≤ v0 := by omega
theorem omx_153 {v0 v1 v2 : Int} (h0 : 1 ≤ v0 ∨ v1 = v2 + 1) (h1 : 0 ≤ v2) : 1 ≤ v1 ∨ 1 ≤ v0 := by omega
theorem omx_154 {v0 v1 v2 v3 v4 v5 v6 : Int} (h0 : 1 ≤ v0 ∨ v1 = v2 + 1) (h1 : (v3 = v1 + 1) ∨ 1 ≤ v4) (h2 : v0 ≤ 0) (h3 : v5 = 1) (h4 : v6 = v2 + v5) : 1 ≤ v4 ∨ v3 = v6 + 1 := by omega
theorem omx_155 {v0 v1 v2 v3 v4 : Int} (h0 : v0 + 1 ≤ v1 + 1000 * v2) (h1 : v1 + 1 ≤ v3 + 1000 * v4) (h2 : v2 ≤ 0) : v0 + 1 ≤ v3 + 1000 * v4 := by omega
theorem omx_156 {v0 v1 v2 v3 : Int} (h0 : (v0 = v1 + 1) ∨ 1 ≤ v2) (h1 : v3 = 0) (h2 : 0 ≤ v1) (h3 : v1 ≤ v3) : 1 ≤ v2 ∨ v0 = v3 + 1 := by omega
theorem omx_157 {v0 v1 : Int} (h0 : v0 = 1) : 1 ≤ v0 ∨ 1 ≤ v1 := by omega
theorem omx_158 {v0 : Int} (h0 : v0 = 0) : v0 + (6 : Int) = 6 := by omega
theorem omx_159 {v0 : Int} (h0 : v0 = 30) : v0 = 30 := by omega
theorem omx_160 {v0 v1 : Int} (h0 : v0 ≤ 700) (h1 : v1 = 700) : v0 ≤ v1 := by omega
theorem omx_161 {v0 : Int} (h0 : v0 = - 1) : v0 = - 1 := by omega
theorem omx_162 {v0 v1 : Int} (h0 : 1 ≤ v0 ∨ v1 = - 1) : 1 ≤ v0 ∨ v1 = - 1 := by omega
theorem omx_163 {v0 v1 : Int} (h0 : 1 ≤ v0) : 1 ≤ v0 ∨ v1 = - 1 := by omega
theorem omx_164 {v0 v1 : Int} (h0 : v0 = 0) (h1 : v1 ≠ v0) : v1 ≠ 0 := by omega
theorem omx_165 {v0 v1 v2 v3 v4 v5 : Int} (h0 : v0 ≤ v1 + 1000 * v2) (h1 : v2 ≤ 5 * v3) (h2 : v1 + 1 ≤ v4 + 1000 * v3) (h3 : v3 ≤ 5 * v5) (h4 : 0 ≤ v0) (h5 : v4 ≤ 700) : v3 ≤ 5 * v5 ∧ 0 ≤ v3 := by omega
theorem omx_166 {v0 v1 v2 : Int} (h0 : v0 ≤ 5 * v1) (h1 : v1 ≤ 5 * v2) (h2 : 0 ≤ v0) (h3 : v0 ≤ 0) : v0 ≤ 5 * v2 ∧ 0 ≤ v0 := by omega
theorem omx_167 {v0 v1 v2 : Int} (h0 : 1 ≤ v0) (h1 : v0 ≤ 5 * v1) (h2 : 0 ≤ v2) (h3 : v2 ≤ 0) : v2 ≤ 5 * v1 ∧ 0 ≤ v2 := by omega
theorem omx_168 {v0 v1 v2 v3 v4 v5 v6 v7 : Int} (h0 : v0 ≤ v1 + 1000 * v2) (h1 : v1 + 1 ≤ v3 + 1000 * v4 ∨ v5 = 0) (h2 : v2 ≤ 0) (h3 : v5 = 59) (h4 : v6 = 1) (h5 : v7 = v0 + v6) : v7 ≤ v3 + 1000 * v4 := by omega
theorem omx_169 {v0 v1 v2 : Int} (h0 : 1 ≤ v0) (h1 : v0 ≤ 5 * v1) : 1 ≤ v1 ∨ v2 = - 1 := by omega
theorem omx_170 {v0 v1 v2 : Int} (h0 : v0 = 0) (h1 : v1 = 0) (h2 : 0 ≤ v2) : v1 ≤ v2 + 1000 * v0 := by omega
theorem omx_171 {v0 v1 : Int} (h0 : v0 = - 1) : 1 ≤ v1 ∨ v0 = - 1 := by omega
theorem omx_172 {v0 v1 v2 : Int} (h0 : v0 = v1 + 25 + 5 * v2) (h1 : 0 ≤ v1) (h2 : v1 ≤ 0) (h3 : 0 ≤ v2) (h4 : v2 ≤ 7) : 0 ≤ v0 ∧ v0 < 65 := by omega
theorem omx_173 {v0 v1 v2 : Int} (h0 : v0 = v1 + 25 + 5 * v2) (h1 : 0 ≤ v1) (h2 : 0 ≤ v2) : 0 ≤ v0 := by omega
theorem omx_174 {v0 v1 v2 v3 v4 : Int} (h0 : v0 = v1 + 25 + 5 * v2) (h1 : 0 ≤ v1) (h2 : v1 ≤ 0) (h3 : 0 ≤ v2) (h4 : v2 ≤ 7) (h5 : v3 = 1) (h6 : v4 = v0 + v3) : 0 ≤ v4 ∧ v4 < 65 := by omega
theorem omx_175 {v0 v1 v2 v3 : Int} (h0 : v0 = v1 + 25 + 5 * v2) (h1 : 0 ≤ v1) (h2 : 0 ≤ v2) (h3 : v3 = 1) : -2147483648 ≤ v0 + v3 := by omega
theorem omx_176 {v0 v1 v2 v3 : Int} (h0 : v0 = v1 + 25 + 5 * v2) (h1 : v1 ≤ 0) (h2 : v2 ≤ 7) (h3 : v3 = 1) : v0 + v3 ≤ 2147483647 := by omega
theorem omx_177 {v0 v1 v2 v3 v4 : Int} (h0 : v0 = v1 + 25 + 5 * v2) (h1 : 0 ≤ v1) (h2 : 0 ≤ v2) (h3 : v3 = 1) (h4 : v4 = v0 + v3) : 0 ≤ v4 := by omega
theorem omx_178 {v0 v1 v2 v3 v4 : Int} (h0 : v0 = v1 + 25 + 5 * v2) (h1 : 0 ≤ v1) (h2 : v1 ≤ 0) (h3 : 0 ≤ v2) (h4 : v2 ≤ 7) (h5 : v3 = 2) (h6 : v4 = v0 + v3) : 0 ≤ v4 ∧ v4 < 65 := by omega
theorem omx_179 {v0 v1 v2 v3 : Int} (h0 : v0 = v1 + 25 + 5 * v2) (h1 : 0 ≤ v1) (h2 : 0 ≤ v2) (h3 : v3 = 2) : -2147483648 ≤ v0 + v3 := by omega
theorem omx_180 {v0 v1 v2 v3 : Int} (h0 : v0 = v1 + 25 + 5 * v2) (h1 : v1 ≤ 0) (h2 : v2 ≤ 7) (h3 : v3 = 2) : v0 + v3 ≤ 2147483647 := by omega
theorem omx_181 {v0 v1 v2 v3 v4 : Int} (h0 : v0 = v1 + 25 + 5 * v2) (h1 : 0 ≤ v1) (h2 : 0 ≤ v2) (h3 : v3 = 2) (h4 : v4 = v0 + v3) : 0 ≤ v4 := by omega
theorem omx_182 {v0 v1 v2 v3 v4 : Int} (h0 : v0 = v1 + 25 + 5 * v2) (h1 : 0 ≤ v1) (h2 : v1 ≤ 0) (h3 : 0 ≤ v2) (h4 : v2 ≤ 7) (h5 : v3 = 3) (h6 : v4 = v0 + v3) : 0 ≤ v4 ∧ v4 < 65 := by omega
theorem omx_183 {v0 v1 v2 v3 : Int} (h0 : v0 = v1 + 25 + 5 * v2) (h1 : 0 ≤ v1) (h2 : 0 ≤ v2) (h3 : v3 = 3) : -2147483648 ≤ v0 + v3 := by omega
theorem omx_184 {v0 v1 v2 v3 : Int} (h0 : v0 = v1 + 25 + 5 * v2) (h1 : v1 ≤ 0) (h2 : v2 ≤ 7) (h3 : v3 = 3) : v0 + v3 ≤ 2147483647 := by omega
theorem omx_185 {v0 v1 v2 v3 v4 : Int} (h0 : v0 = v1 + 25 + 5 * v2) (h1 : 0 ≤ v1) (h2 : 0 ≤ v2) (h3 : v3 = 3) (h4 : v4 = v0 + v3) : 0 ≤ v4 := by omega
theorem omx_186 {v0 v1 v2 v3 v4 : Int} (h0 : v0 = v1 + 25 + 5 * v2) (h1 : 0 ≤ v1) (h2 : v1 ≤ 0) (h3 : 0 ≤ v2) (h4 : v2 ≤ 7) (h5 : v3 = 4) (h6 : v4 = v0 + v3) : 0 ≤ v4 ∧ v4 < 65 := by omega
theorem omx_187 {v0 v1 v2 v3 : Int} (h0 : v0 = v1 + 25 + 5 * v2) (h1 : 0 ≤ v1) (h2 : 0 ≤ v2) (h3 : v3 = 4) : -2147483648 ≤ v0 + v3 := by omega
theorem omx_188 {v0 v1 v2 v3 : Int} (h0 : v0 = v1 + 25 + 5 * v2) (h1 : v1 ≤ 0) (h2 : v2 ≤ 7) (h3 : v3 = 4) : v0 + v3 ≤ 2147483647 := by omega
theorem omx_189 {v0 v1 v2 v3 v4 : Int} (h0 : v0 = v1 + 25 + 5 * v2) (h1 : 0 ≤ v1) (h2 : 0 ≤ v2) (h3 : v3 = 4) (h4 : v4 = v0 + v3) : 0 ≤ v4 := by omega
theorem omx_190 {v0 v1 v2 v3 v4 v5 v6 : Int} (h0 : v0 = v1 + 25 + 5 * v2) (h1 : v3 = 5) (h2 : v4 = 1) (h3 : v5 = v2 + v4) (h4 : v6 = v0 + v3) : v6 = v1 + 25 + 5 * v5 := by omega
theorem omx_191 {v0 v1 v2 v3 : Int} (h0 : v0 = v1 + 25 + 5 * v2) (h1 : 0 ≤ v1) (h2 : 0 ≤ v2) (h3 : v3 = 5) : -2147483648 ≤ v0 + v3 := by omega
theorem omx_192 {v0 v1 v2 v3 : Int} (h0 : v0 = v1 + 25 + 5 * v2) (h1 : v1 ≤ 0) (h2 : v2 ≤ 7) (h3 : v3 = 5) : v0 + v3 ≤ 2147483647 := by omega
theorem omx_193 {v0 v1 v2 v3 : Int} (h0 : v0 = v1 + 1 + 3 * v2) (h1 : v3 = 0) (h2 : 8 ≤ v2) (h3 : v2 ≤ 8) : v0 = v1 + 25 + 5 * v3 := by omega
theorem omx_194 {v0 v1 v2 : Int} (h0 : v0 = v1 + 1 + 3 * v2) (h1 : 0 ≤ v1) (h2 : v1 ≤ 0) (h3 : 0 ≤ v2) (h4 : v2 ≤ 7) : 0 ≤ v0 ∧ v0 < 65 := by omega
theorem omx_195 {v0 v1 v2 : Int} (h0 : v0 = v1 + 1 + 3 * v2) (h1 : 0 ≤ v1) (h2 : 0 ≤ v2) : 0 ≤ v0 := by omega
theorem omx_196 {v0 v1 v2 v3 v4 : Int} (h0 : v0 = v1 + 1 + 3 * v2) (h1 : 0 ≤ v1) (h2 : v1 ≤ 0) (h3 : 0 ≤ v2) (h4 : v2 ≤ 7) (h5 : v3 = 1) (h6 : v4 = v0 + v3) : 0 ≤ v4 ∧ v4 < 65 := by omega
theorem omx_197 {v0 v1 v2 v3 : Int} (h0 : v0 = v1 + 1 + 3 * v2) (h1 : 0 ≤ v1) (h2 : 0 ≤ v2) (h3 : v3 = 1) : -2147483648 ≤ v0 + v3 := by omega
theorem omx_198 {v0 v1 v2 v3 : Int} (h0 : v0 = v1 + 1 + 3 * v2) (h1 : v1 ≤ 0) (h2 : v2 ≤ 7) (h3 : v3 = 1) : v0 + v3 ≤ 2147483647 := by omega
theorem omx_199 {v0 v1 v2 v3 v4 : Int} (h0 : v0 = v1 + 1 + 3 * v2) (h1 : 0 ≤ v1) (h2 : 0 ≤ v2) (h3 : v3 = 1) (h4 : v4 = v0 + v3) : 0 ≤ v4 := by omega
theorem omx_200 {v0 v1 v2 v3 v4 : Int} (h0 : v0 = v1 + 1 + 3 * v2) (h1 : 0 ≤ v1) (h2 : v1 ≤ 0) (h3 : 0 ≤ v2) (h4 : v2 ≤ 7) (h5 : v3 = 2) (h6 : v4 = v0 + v3) : 0 ≤ v4 ∧ v4 < 65 := by omega
theorem omx_201 {v0 v1 v2 v3 : Int} (h0 : v0 = v1 + 1 + 3 * v2) (h1 : 0 ≤ v1) (h2 : 0 ≤ v2) (h3 : v3 = 2) : -2147483648 ≤ v0 + v3 := by omega
theorem omx_202 {v0 v1 v2 v3 : Int} (h0 : v0 = v1 + 1 + 3 * v2) (h1 : v1 ≤ 0) (h2 : v2 ≤ 7) (h3 : v3 = 2) : v0 + v3 ≤ 2147483647 := by omega
theorem omx_203 {v0 v1 v2 v3 v4 : Int} (h0 : v0 = v1 + 1 + 3 * v2) (h1 : 0 ≤ v1) (h2 : 0 ≤ v2) (h3 : v3 = 2) (h4 : v4 = v0 + v3) : 0 ≤ v4 := by omega
theorem omx_204 {v0 v1 v2 v3 v4 v5 v6 : Int} (h0 : v0 = v1 + 1 + 3 * v2) (h1 : v3 = 3) (h2 : v4 = 1) (h3 : v5 = v2 + v4) (h4 : v6 = v0 + v3) : v6 = v1 + 1 + 3 * v5 := by omega
theorem omx_205 {v0 v1 v2 v3 : Int} (h0 : v0 = v1 + 1 + 3 * v2) (h1 : 0 ≤ v1) (h2 : 0 ≤ v2) (h3 : v3 = 3) : -2147483648 ≤ v0 + v3 := by omega
theorem omx_206 {v0 v1 v2 v3 : Int} (h0 : v0 = v1 + 1 + 3 * v2) (h1 : v1 ≤ 0) (h2 : v2 ≤ 7) (h3 : v3 = 3) : v0 + v3 ≤ 2147483647 := by omega
theorem omx_207 {v0 v1 v2 : Int} (h0 : 1 ≤ v0) (h1 : v0 ≤ 1) (h2 : 0 ≤ v1) (h3 : v1 ≤ 0) (h4 : v2 = 0) : v0 = v1 + 1 + 3 * v2 := by omega
theorem omx_208 {v0 v1 v2 : Int} (h0 : v0 = v1 + 25 + 5 * v2) (h1 : 0 ≤ v1) (h2 : v1 ≤ 2535) (h3 : 0 ≤ v2) (h4 : v2 ≤ 7) : 0 ≤ v0 ∧ v0 < 2600 := by omega
theorem omx_209 {v0 v1 v2 v3 v4 : Int} (h0 : v0 = v1 + 25 + 5 * v2) (h1 : 0 ≤ v1) (h2 : v1 ≤ 2535) (h3 : 0 ≤ v2) (h4 : v2 ≤ 7) (h5 : v3 = 1) (h6 : v4 = v0 + v3) : 0 ≤ v4 ∧ v4 < 2600 := by omega
theorem omx_210 {v0 v1 v2 v3 : Int} (h0 : v0 = v1 + 25 + 5 * v2) (h1 : v1 ≤ 2535) (h2 : v2 ≤ 7) (h3 : v3 = 1) : v0 + v3 ≤ 2147483647 := by omega
theorem omx_211 {v0 v1 v2 v3 v4 : Int} (h0 : v0 = v1 + 25 + 5 * v2) (h1 : 0 ≤ v1) (h2 : v1 ≤ 2535) (h3 : 0 ≤ v2) (h4 : v2 ≤ 7) (h5 : v3 = 2) (h6 : v4 = v0 + v3) : 0 ≤ v4 ∧ v4 < 2600 := by omega
theorem omx_212 {v0 v1 v2 v3 : Int} (h0 : v0 = v1 + 25 + 5 * v2) (h1 : v1 ≤ 2535) (h2 : v2 ≤ 7) (h3 : v3 = 2) : v0 + v3 ≤ 2147483647 := by omega
theorem omx_213 {v0 v1 v2 v3 v4 : Int} (h0 : v0 = v1 + 25 + 5 * v2) (h1 : 0 ≤ v1) (h2 : v1 ≤ 2535) (h3 : 0 ≤ v2) (h4 : v2 ≤ 7) (h5 : v3 = 3) (h6 : v4 = v0 + v3) : 0 ≤ v4 ∧ v4 < 2600 := by omega
theorem omx_214 {v0 v1 v2 v3 : Int} (h0 : v0 = v1 + 25 + 5 * v2) (h1 : v1 ≤ 2535) (h2 : v2 ≤ 7) (h3 : v3 = 3) : v0 + v3 ≤ 2147483647 := by omega
theorem omx_215 {v0 v1 v2 v3 v4 : Int} (h0 : v0 = v1 + 25 + 5 * v2) (h1 : 0 ≤ v1) (h2 : v1 ≤ 2535) (h3 : 0 ≤ v2) (h4 : v2 ≤ 7) (h5 : v3 = 4) (h6 : v4 = v0 + v3) : 0 ≤ v4 ∧ v4 < 2600 := by omega
theorem omx_216 {v0 v1 v2 v3 : Int} (h0 : v0 = v1 + 25 + 5 * v2) (h1 : v1 ≤ 2535) (h2 : v2 ≤ 7) (h3 : v3 = 4) : v0 + v3 ≤ 2147483647 := by omega
theorem omx_217 {v0 v1 v2 v3 : Int} (h0 : v0 = v1 + 25 + 5 * v2) (h1 : v1 ≤ 2535) (h2 : v2 ≤ 7) (h3 : v3 = 5) : v0 + v3 ≤ 2147483647 := by omega
theorem omx_218 {v0 v1 v2 : Int} (h0 : v0 = v1 + 1 + 3 * v2) (h1 : 0 ≤ v1) (h2 : v1 ≤ 2535) (h3 : 0 ≤ v2) (h4 : v2 ≤ 7) : 0 ≤ v0 ∧ v0 < 2600 := by omega
theorem omx_219 {v0 v1 v2 v3 v4 : Int} (h0 : v0 = v1 + 1 + 3 * v2) (h1 : 0 ≤ v1) (h2 : v1 ≤ 2535) (h3 : 0 ≤ v2) (h4 : v2 ≤ 7) (h5 : v3 = 1) (h6 : v4 = v0 + v3) : 0 ≤ v4 ∧ v4 < 2600 := by omega
theorem omx_220 {v0 v1 v2 v3 : Int} (h0 : v0 = v1 + 1 + 3 * v2) (h1 : v1 ≤ 2535) (h2 : v2 ≤ 7) (h3 : v3 = 1) : v0 + v3 ≤ 2147483647 := by omega
theorem omx_221 {v0 v1 v2 v3 v4 : Int} (h0 : v0 = v1 + 1 + 3 * v2) (h1 : 0 ≤ v1) (h2 : v1 ≤ 2535) (h3 : 0 ≤ v2) (h4 : v2 ≤ 7) (h5 : v3 = 2) (h6 : v4 = v0 + v3) : 0 ≤ v4 ∧ v4 < 2600 := by omega
theorem omx_222 {v0 v1 v2 v3 : Int} (h0 : v0 = v1 + 1 + 3 * v2) (h1 : v1 ≤ 2535) (h2 : v2 ≤ 7) (h3 : v3 = 2) : v0 + v3 ≤ 2147483647 := by omega
theorem omx_223 {v0 v1 v2 v3 : Int} (h0 : v0 = v1 + 1 + 3 * v2) (h1 : v1 ≤ 2535) (h2 : v2 ≤ 7) (h3 : v3 = 3) : v0 + v3 ≤ 2147483647 := by omega
theorem omx_224 {v0 v1 v2 v3 : Int} (h0 : v0 = 0) (h1 : v1 = 1) (h2 : v2 = v3 + v1) : v2 = v3 + 1 + 3 * v0 := by omega
theorem omx_225 {v0 v1 : Int} (h0 : v0 ≤ 2535) (h1 : v1 = 1) : v0 + v1 ≤ 2147483647 := by omega
theorem omx_226 {v0 v1 v2 v3 : Int} (h0 : v0 = v1) (h1 : v1 + 1 ≤ 5000) (h2 : 1 ≤ v2) (h3 : v3 = 1) (h4 : v2 = v0 + v3) : 0 ≤ v2 ∧ v2 ≤ 5000 := by omega
theorem omx_227 {v0 v1 : Int} (h0 : v0 ≤ 5000) (h1 : v1 = 1) : v0 + v1 ≤ 2147483647 := by omega
theorem omx_228 {v0 v1 v2 v3 : Int} (h0 : v0 = v1) (h1 : v2 = 1) (h2 : v3 = v0 + v2) : v3 = v1 + 1 := by omega
theorem omx_229 {v0 v1 : Int} (h0 : v0 ≤ 999) (h1 : v1 ≤ 20) : v0 + v1 ≤ 5000 := by omega
theorem omx_230 {v0 v1 v2 v3 : Int} (h0 : v0 = v1 + v2) (h1 : 0 ≤ v0) (h2 : v3 ≤ 999) (h3 : v3 = v1 + v2) : 0 ≤ v0 ∧ v0 ≤ 999 := by omega
theorem omx_231 {v0 v1 v2 : Int} (h0 : v0 = v1 + v2) (h1 : 0 ≤ v0) : -2147483648 ≤ v1 + v2 := by omega
theorem omx_232 {v0 v1 v2 : Int} (h0 : v0 = v1 + v2) (h1 : v0 ≤ 5000) : v1 + v2 ≤ 2147483647 := by omega
theorem omx_233 {v0 v1 : Int} (h0 : v0 ≤ 999) (h1 : v1 ≤ 60) : v0 + v1 ≤ 5000 := by omega
theorem omx_234 {v0 v1 v2 : Int} (h0 : v0 ≤ 999 + v1) (h1 : v2 = 1) (h2 : v1 ≤ 60) : v0 + v2 ≤ 5000 := by omega
theorem omx_235 {v0 v1 v2 v3 v4 : Int} (h0 : v0 ≤ 999 + v1) (h1 : v2 = v0 + v3) (h2 : v4 = v1 + v3) : v2 ≤ 999 + v4 := by omega
theorem omx_236 {v0 v1 : Int} (h0 : v0 ≤ 999) (h1 : v1 = 0) : v0 ≤ 999 + v1 := by omega
theorem omx_237 {v0 v1 v2 v3 : Int} (h0 : v0 ≤ 999 + v1 + 1) (h1 : v2 = 1) (h2 : v3 = v1 + v2) : v0 ≤ 999 + v3 := by omega
theorem omx_238 {v0 v1 v2 : Int} (h0 : v0 ≤ 999 + v1) (h1 : v2 = 1) (h2 : v1 ≤ 59) : v0 + v2 ≤ 5000 := by omega
theorem omx_239 {v0 v1 v2 v3 : Int} (h0 : v0 ≤ 999 + v1) (h1 : v2 = v0 + v3) (h2 : v3 = 1) : v2 ≤ 999 + v1 + 1 := by omega
theorem omx_240 {v0 v1 : Int} (h0 : v0 ≤ 999) (h1 : v1 = 6) : v0 + v1 ≤ 5000 := by omega
theorem omx_241 {v0 : Int} (h0 : v0 ≤ 999) : v0 ≤ 999 := by omega
theorem omx_242 {v0 : Int} (h0 : v0 ≤ 999) (h1 : 0 ≤ v0) : 0 ≤ v0 ∧ v0 ≤ 999 := by omega
theorem omx_243 {v0 v1 : Int} (h0 : v0 ≤ 999 + v1) (h1 : v1 ≤ 59) : v0 + 1 ≤ 5000 := by omega
theorem omx_244 {v0 v1 v2 v3 v4 : Int} (h0 : v0 ≤ 999 + v1) (h1 : v2 = v0 + 1) (h2 : v3 = 1) (h3 : v4 = v1 + v3) : v2 ≤ 999 + v4 := by omega
theorem omx_245 {v0 v1 : Int} (h0 : v0 ≤ 999 + v1) (h1 : v1 ≤ 4) : v0 + 1 ≤ 5000 := by omega
theorem omx_246 {v0 v1 : Int} (h0 : v0 ≤ 4) (h1 : v1 = 1) : v0 + v1 ≤ 2147483647 := by omega
theorem omx_247 {v0 : Int} (h0 : v0 = 1) : v0 = 1 := by omega
theorem omx_248 {v0 v1 : Int} (h0 : v0 = 1) (h1 : 1 ≤ v1) (h2 : v1 ≤ 1) : v0 = v1 := by omega
theorem omx_249 {v0 v1 : Int} (h0 : v0 = v1) : v1 = v0 := by omega
theorem omx_250 {v0 v1 v2 : Int} (h0 : v0 = v1 + v2) (h1 : v2 ≤ 19) (h2 : v1 ≤ 680) (h3 : 0 ≤ v0) : 0 ≤ v0 ∧ v0 < 700 := by omega
theorem omx_251 {v0 v1 v2 v3 v4 : Int} (h0 : v0 = v1 + v2) (h1 : v2 ≤ 19) (h2 : v1 ≤ 680) (h3 : 1 ≤ v3) (h4 : v4 = 1) (h5 : v3 = v0 + v4) : 0 ≤ v3 ∧ v3 ≤ 700 := by omega
theorem omx_252 {v0 v1 : Int} (h0 : v0 ≤ 700) (h1 : v1 = 1) : v0 + v1 ≤ 2147483647 := by omega
theorem omx_253 {v0 v1 v2 v3 v4 v5 : Int} (h0 : v0 = v1 + v2) (h1 : v3 = v2 + v4) (h2 : v5 = v0 + v4) : v5 = v1 + v3 := by omega
theorem omx_254 {v0 v1 : Int} (h0 : v0 ≤ 19) (h1 : v1 = 1) : v0 + v1 ≤ 2147483647 := by omega
theorem omx_255 {v0 v1 v2 : Int} (h0 : v0 ≤ 19) (h1 : v1 = 1) (h2 : v2 = v0 + v1) : v2 ≤ 20 := by omega
theorem omx_256 {v0 : Int} (h0 : v0 ≤ 19) : v0 ≤ 19 := by omega
theorem omx_257 {v0 : Int} (h0 : v0 ≤ 15) : v0 ≤ 19 := by omega
theorem omx_258 {v0 : Int} (h0 : v0 ≤ 11) : v0 ≤ 19 := by omega
theorem omx_259 {v0 : Int} (h0 : v0 ≤ 7) : v0 ≤ 19 := by omega
theorem omx_260 {v0 : Int} (h0 : v0 ≤ 3) : v0 ≤ 19 := by omega
theorem omx_261 {v0 : Int} (h0 : v0 = 0) : v0 ≤ 20 := by omega
theorem omx_262 {v0 v1 v2 : Int} (h0 : v0 ≤ 700) (h1 : v1 = 20) (h2 : v0 = v2 + v1) : v2 ≤ 680 := by omega
theorem omx_263 {v0 v1 : Int} (h0 : 0 ≤ v0) (h1 : v1 = 20) : -2147483648 ≤ v0 + v1 := by omega
theorem omx_264 {v0 v1 : Int} (h0 : v0 ≤ 700) (h1 : v1 = 20) : v0 + v1 ≤ 2147483647 := by omega
theorem omx_265 {v0 v1 v2 : Int} (h0 : v0 ≤ 999 + v1) (h1 : v2 = 1) (h2 : v1 ≤ 20) : v0 + v2 ≤ 5000 := by omega
theorem omx_266 {v0 v1 v2 v3 v4 : Int} (h0 : v0 ≤ 100 * v1 + v2 + 1) (h1 : v3 = 1) (h2 : v4 = v2 + v3) : v0 ≤ 100 * v1 + v4 := by omega
theorem omx_267 {v0 v1 : Int} (h0 : v0 ≤ 99) (h1 : v1 = 1) : v0 + v1 ≤ 2147483647 := by omega
theorem omx_268 {v0 v1 v2 v3 v4 : Int} (h0 : v0 ≤ 100 * v1 + v2) (h1 : v2 ≤ 100) (h2 : v3 = 1) (h3 : v4 = v1 + v3) : v0 ≤ 100 * v4 := by omega
theorem omx_269 {v0 v1 v2 v3 : Int} (h0 : v0 ≤ 100 * v1 + v2) (h1 : 0 ≤ v0) (h2 : v2 ≤ 100) (h3 : v3 = 1) : -2147483648 ≤ v1 + v3 := by omega
theorem omx_270 {v0 v1 v2 : Int} (h0 : v0 ≤ 100 * v1 + v2) : v0 ≤ 100 * v1 + v2 + 1 := by omega
theorem omx_271 {v0 v1 v2 : Int} (h0 : v0 ≤ 100 * v1 + v2) (h1 : 0 ≤ v0) (h2 : v1 ≤ 7) (h3 : v2 ≤ 99) : 0 ≤ v0 ∧ v0 < 800 := by omega
theorem omx_272 {v0 v1 v2 v3 v4 : Int} (h0 : v0 ≤ 100 * v1 + v2) (h1 : 1 ≤ v3) (h2 : v1 ≤ 7) (h3 : v2 ≤ 99) (h4 : v4 = 1) (h5 : v3 = v0 + v4) : 0 ≤ v3 ∧ v3 ≤ 800 := by omega
theorem omx_273 {v0 v1 : Int} (h0 : v0 ≤ 800) (h1 : v1 = 1) : v0 + v1 ≤ 2147483647 := by omega
theorem omx_274 {v0 v1 v2 v3 v4 : Int} (h0 : v0 ≤ 100 * v1 + v2) (h1 : v3 = 1) (h2 : v4 = v0 + v3) : v4 ≤ 100 * v1 + v2 + 1 := by omega
theorem omx_275 {v0 v1 v2 : Int} (h0 : v0 ≤ 100 * v1) (h1 : v2 = 0) : v0 ≤ 100 * v1 + v2 := by omega
theorem omx_276 {v0 : Int} (h0 : v0 = 0) : v0 ≤ 100 * v0 := by omega
theorem omx_277 {v0 v1 v2 : Int} (h0 : v0 = - 1) : v1 < v2 ∨ v0 = - 1 := by omega
theorem omx_278 {v0 v1 v2 : Int} (h0 : v0 < v1) : v0 < v1 ∨ v2 = - 1 := by omega
theorem omx_279 {v0 v1 : Int} (h0 : v0 = 0) (h1 : v1 ≤ 96) : v0 = 0 ∧ (v1 < 97 ∨ 122 < v1) ∨ v0 = 1 ∧ 97 ≤ v1 ∧ v1 ≤ 122 := by omega
theorem omx_280 {v0 v1 : Int} (h0 : v0 = 0) (h1 : 123 ≤ v1) : v0 = 0 ∧ (v1 < 97 ∨ 122 < v1) ∨ v0 = 1 ∧ 97 ≤ v1 ∧ v1 ≤ 122 := by omega
theorem omx_281 {v0 v1 : Int} (h0 : v0 = 1) (h1 : 97 ≤ v1) (h2 : v1 ≤ 122) : v0 = 0 ∧ (v1 < 97 ∨ 122 < v1) ∨ v0 = 1 ∧ 97 ≤ v1 ∧ v1 ≤ 122 := by omega
theorem omx_282 {v0 v1 : Int} (h0 : v0 = 0) (h1 : v1 ≤ 47) : v0 = 0 ∧ (v1 < 48 ∨ 57 < v1) ∨ v0 = 1 ∧ 48 ≤ v1 ∧ v1 ≤ 57 := by omega
theorem omx_283 {v0 v1 : Int} (h0 : v0 = 0) (h1 : 58 ≤ v1) : v0 = 0 ∧ (v1 < 48 ∨ 57 < v1) ∨ v0 = 1 ∧ 48 ≤ v1 ∧ v1 ≤ 57 := by omega
theorem omx_284 {v0 v1 : Int} (h0 : v0 = 1) (h1 : 48 ≤ v1) (h2 : v1 ≤ 57) : v0 = 0 ∧ (v1 < 48 ∨ 57 < v1) ∨ v0 = 1 ∧ 48 ≤ v1 ∧ v1 ≤ 57 := by omega
theorem omx_285 {v0 v1 v2 v3 : Int} (h0 : v0 < v1 ∨ v2 = - 1) (h1 : v3 = 0 ∧ (v2 < 48 ∨ 57 < v2) ∨ v3 = 1 ∧ 48 ≤ v2 ∧ v2 ≤ 57) (h2 : v3 ≤ 0) : v2 < 48 ∨ 57 < v2 := by omega
theorem omx_286 {v0 v1 v2 v3 v4 v5 : Int} (h0 : v0 < v1 ∨ v2 = - 1) (h1 : v3 = 0 ∧ (v2 < 48 ∨ 57 < v2) ∨ v3 = 1 ∧ 48 ≤ v2 ∧ v2 ≤ 57) (h2 : 1 ≤ v4) (h3 : v1 ≤ 700) (h4 : 1 ≤ v3) (h5 : v5 = 1) (h6 : v4 = v0 + v5) : 0 ≤ v4 ∧ v4 ≤ 700 := by omega
theorem omx_287 {v0 v1 v2 v3 v4 v5 : Int} (h0 : v0 < v1 ∨ v2 = - 1) (h1 : v3 = 0 ∧ (v2 < 48 ∨ 57 < v2) ∨ v3 = 1 ∧ 48 ≤ v2 ∧ v2 ≤ 57) (h2 : 1 ≤ v3) (h3 : v4 = 1) (h4 : v5 = v0 + v4) : v5 ≤ v1 := by omega
theorem omx_288 {v0 v1 v2 v3 v4 v5 : Int} (h0 : v0 ≤ v1) (h1 : v0 < v2) (h2 : v3 = 1) (h3 : v4 = v1 + v3) : v0 < v4 ∨ (v4 = v0 ∧ 48 ≤ v5 ∧ v5 ≤ 57 ∧ v4 < v2) := by omega
theorem omx_289 {v0 v1 v2 v3 : Int} (h0 : v0 < v1 ∨ v2 = - 1) (h1 : v3 = 0 ∧ (v2 < 97 ∨ 122 < v2) ∨ v3 = 1 ∧ 97 ≤ v2 ∧ v2 ≤ 122) (h2 : v3 ≤ 0) : v2 < 97 ∨ 122 < v2 := by omega
theorem omx_290 {v0 v1 v2 v3 v4 v5 : Int} (h0 : v0 < v1 ∨ v2 = - 1) (h1 : v3 = 0 ∧ (v2 < 97 ∨ 122 < v2) ∨ v3 = 1 ∧ 97 ≤ v2 ∧ v2 ≤ 122) (h2 : 1 ≤ v4) (h3 : v1 ≤ 700) (h4 : 1 ≤ v3) (h5 : v5 = 1) (h6 : v4 = v0 + v5) : 0 ≤ v4 ∧ v4 ≤ 700 := by omega
theorem omx_291 {v0 v1 v2 v3 v4 v5 : Int} (h0 : v0 < v1 ∨ v2 = - 1) (h1 : v3 = 0 ∧ (v2 < 97 ∨ 122 < v2) ∨ v3 = 1 ∧ 97 ≤ v2 ∧ v2 ≤ 122) (h2 : 1 ≤ v3) (h3 : v4 = 1) (h4 : v5 = v0 + v4) : v5 ≤ v1 := by omega
theorem omx_292 {v0 v1 v2 v3 v4 v5 : Int} (h0 : v0 ≤ v1) (h1 : v0 < v2) (h2 : v3 = 1) (h3 : v4 = v1 + v3) : v0 < v4 ∨ (v4 = v0 ∧ 97 ≤ v5 ∧ v5 ≤ 122 ∧ v4 < v2) := by omega
theorem omx_293 {v0 v1 v2 v3 : Int} (h0 : v0 < v1 ∨ v2 = - 1) (h1 : v3 = 0 ∧ (v2 < 97 ∨ 122 < v2) ∨ v3 = 1 ∧ 97 ≤ v2 ∧ v2 ≤ 122) (h2 : 1 ≤ v3) : 97 ≤ v2 ∧ v2 ≤ 122 := by omega
theorem omx_294 {v0 v1 v2 v3 v4 : Int} (h0 : v0 < v1 ∨ v2 = - 1) (h1 : 1 ≤ v3) (h2 : v1 ≤ 700) (h3 : 32 ≤ v2) (h4 : v4 = 1) (h5 : v3 = v0 + v4) : 0 ≤ v3 ∧ v3 ≤ 700 := by omega
theorem omx_295 {v0 v1 v2 v3 v4 : Int} (h0 : v0 < v1 ∨ v2 = - 1) (h1 : 32 ≤ v2) (h2 : v3 = 1) (h3 : v4 = v0 + v3) : v4 ≤ v1 := by omega
theorem omx_296 {v0 : Int} (h0 : 32 ≤ v0) (h1 : v0 ≤ 32) : v0 = 32 ∨ v0 = 10 := by omega
theorem omx_297 {v0 v1 v2 v3 : Int} (h0 : v0 = 4) (h1 : v1 = 1) (h2 : v2 = v3 + v1) : v0 ≤ 5 * (v2 - v3) := by omega
theorem omx_298 {v0 v1 v2 v3 : Int} (h0 : v0 < v1 ∨ v2 = - 1) (h1 : v3 = - 1) (h2 : v2 ≠ v3) : v2 ≠ - 1 := by omega
theorem omx_299 {v0 v1 v2 v3 : Int} (h0 : v0 = 3) (h1 : v1 = 1) (h2 : v2 = v3 + v1) : v0 ≤ 5 * (v2 - v3) := by omega
theorem omx_300 {v0 v1 : Int} (h0 : v0 = 0) : v0 ≤ 5 * (v1 - v1) := by omega
theorem omx_301 {v0 : Int} (h0 : - 1 ≤ v0) (h1 : v0 ≤ - 1) : v0 = - 1 := by omega
theorem omx_302 {v0 v1 v2 v3 v4 v5 : Int} (h0 : v0 < v1 ∨ v2 = - 1) (h1 : v0 < v1 ∨ v3 = - 1) (h2 : 1 ≤ v4) (h3 : v1 ≤ 700) (h4 : 10 ≤ v3) (h5 : v5 = 1) (h6 : v4 = v0 + v5) : 0 ≤ v4 ∧ v4 ≤ 700 := by omega
theorem omx_303 {v0 v1 v2 v3 v4 v5 : Int} (h0 : v0 < v1 ∨ v2 = - 1) (h1 : v0 < v1 ∨ v3 = - 1) (h2 : 10 ≤ v3) (h3 : v4 = 1) (h4 : v5 = v0 + v4) : v5 ≤ v1 := by omega
theorem omx_304 {v0 : Int} (h0 : 10 ≤ v0) (h1 : v0 ≤ 10) : v0 = 32 ∨ v0 = 10 := by omega
theorem omx_305 {v0 v1 : Int} (h0 : 0 ≤ v0) (h1 : v0 ≤ 0) (h2 : 1 ≤ v1) : (v0 = 0 ∧ v1 = v1) ∨ (1 ≤ v0 ∧ v1 = v0) := by omega
theorem omx_306 {v0 v1 : Int} (h0 : 1 ≤ v0) (h1 : 1 ≤ v1) : (v0 = 0 ∧ v0 = v1) ∨ (1 ≤ v0 ∧ v0 = v0) := by omega
theorem omx_307 {v0 v1 : Int} (h0 : v0 ≤ 5) (h1 : v1 = 0) : v0 ≤ 5 * (1 - v1) := by omega
theorem omx_308 {v0 v1 v2 v3 : Int} (h0 : v0 ≤ 5 * (v1 - v2)) (h1 : v3 = 0) (h2 : 0 ≤ v0) : v2 + v3 ≤ v1 := by omega
theorem omx_309 {v0 : Int} (h0 : 40 ≤ v0) : 5 ≤ v0 := by omega
theorem omx_310 {v0 v1 : Int} (h0 : v0 ≤ 0) (h1 : v1 = 0) : v0 ≤ 5 * (1 - v1) := by omega
theorem omx_311 {v0 v1 v2 : Int} (h0 : v0 ≤ 5 * (v1 - v2)) (h1 : 0 ≤ v2) (h2 : v1 ≤ 700) (h3 : 3 ≤ v0) : 0 ≤ v2 ∧ v2 < 700 := by omega
theorem omx_312 {v0 v1 v2 v3 : Int} (h0 : v0 ≤ 5 * (v1 - v2)) (h1 : v3 = 0) (h2 : 3 ≤ v0) : v2 + v3 ≤ v1 := by omega
theorem omx_313 {v0 v1 : Int} (h0 : v0 ≤ 0) (h1 : v1 = 1) : v0 ≤ 5 * (1 - v1) := by omega
theorem omx_314 {v0 v1 v2 v3 : Int} (h0 : v0 ≤ 5 * (v1 - v2)) (h1 : v3 = 1) (h2 : 3 ≤ v0) : v2 + v3 ≤ v1 := by omega
theorem omx_315 {v0 : Int} (h0 : 3 ≤ v0) (h1 : v0 ≤ 3) : v0 = 3 := by omega
theorem omx_316 {v0 v1 : Int} (h0 : 1 ≤ v0) : v1 + 1 ≤ v1 + v0 := by omega
theorem omx_317 {v0 v1 v2 : Int} (h0 : v0 = v1) (h1 : v1 ≤ v2) : v0 ≤ v2 := by omega
theorem omx_318 {v0 v1 v2 v3 v4 : Int} (h0 : v0 = v1) (h1 : v2 + v3 ≤ v1) (h2 : v0 ≤ v4) (h3 : 1 ≤ v3) : v2 ≤ v4 := by omega
theorem omx_319 {v0 v1 v2 v3 v4 v5 : Int} (h0 : v0 = v1) (h1 : v2 + v3 ≤ v1) (h2 : v0 ≤ v4) (h3 : 0 ≤ v5) (h4 : 1 ≤ v3) : v2 + 1 ≤ v4 + v5 := by omega
theorem omx_320 {v0 v1 : Int} (h0 : 1 ≤ v0) (h1 : v1 ≤ 0) : v1 ≤ 5 * v0 := by omega
theorem omx_321 {v0 v1 v2 : Int} (h0 : 1 ≤ v0) (h1 : v0 ≤ 0) : v1 ≤ v2 := by omega
theorem omx_322 {v0 : Int} (h0 : 1 ≤ v0) (h1 : v0 ≤ 0) : v0 = 0 := by omega
theorem omx_323 {v0 v1 v2 : Int} (h0 : 1 ≤ v0) (h1 : v0 ≤ 0) : v1 + 1 ≤ v2 + v0 := by omega
theorem omx_324 {v0 v1 v2 v3 : Int} (h0 : 1 ≤ v0) (h1 : 5 ≤ v1) (h2 : v1 = v2 - v3) : v3 + 1 ≤ v2 + v0 := by omega
theorem omx_325 {v0 v1 v2 : Int} (h0 : v0 ≤ 5 * (v1 - v2)) (h1 : 2 ≤ v0) : -2147483648 ≤ v1 - v2 := by omega
theorem omx_326 {v0 v1 : Int} (h0 : 0 ≤ v0) (h1 : v1 ≤ 700) : v1 - v0 ≤ 2147483647 := by omega
theorem omx_327 {v0 : Int} (h0 : 0 ≤ v0) (h1 : v0 ≤ 9999) : 0 ≤ v0 ∧ v0 ≤ 9999 := by omega
theorem omx_328 {v0 v1 v2 v3 v4 : Int} (h0 : 5 ≤ v0) (h1 : v0 = v1 - v2) : 4 < v1 - v2 ∨ v3 < v4 := by omega
theorem omx_329 {v0 v1 : Int} (h0 : 1 ≤ v0) (h1 : v0 ≤ 0) : 0 ≤ v1 ∧ v1 ≤ 9999 := by omega
theorem omx_330 {v0 v1 : Int} (h0 : 1 ≤ v0) (h1 : v0 ≤ 0) : v1 = 0 := by omega
theorem omx_331 {v0 v1 : Int} (h0 : 1 ≤ v0) (h1 : 2 ≤ v1) (h2 : v0 ≤ 0) : v1 = 2 := by omega
theorem omx_332 {v0 v1 v2 v3 v4 : Int} (h0 : 1 ≤ v0) (h1 : v0 ≤ 0) : 4 < v1 - v2 ∨ v3 < v4 := by omega
theorem omx_333 {v0 v1 v2 v3 : Int} (h0 : v0 ≤ 5 * (v1 - v2)) (h1 : 1 ≤ v3) (h2 : 2 ≤ v0) : v2 + 1 ≤ v1 + v3 := by omega
theorem omx_334 {v0 : Int} (h0 : v0 ≤ - 1) : v0 < 0 := by omega
theorem omx_335 {v0 v1 : Int} (h0 : 1 ≤ v0) (h1 : v1 ≤ - 1) (h2 : v0 ≤ 0) : 0 ≤ v1 ∧ v1 ≤ 9999 := by omega
theorem omx_336 {v0 v1 : Int} (h0 : v0 ≤ - 1) (h1 : 0 ≤ v1) : v0 ≤ v1 := by omega
theorem omx_337 {v0 v1 v2 : Int} (h0 : 1 ≤ v0) (h1 : v0 ≤ 0) : v1 - v2 ≤ 4 := by omega
theorem omx_338 {v0 v1 v2 v3 : Int} (h0 : v0 ≤ 5 * (v1 - v2)) (h1 : 0 ≤ v3) (h2 : 2 ≤ v0) : v2 + 1 ≤ v1 + v3 := by omega
theorem omx_339 {v0 v1 v2 v3 : Int} (h0 : v0 < v1) : 4 < v2 - v3 ∨ v0 < v1 := by omega
theorem omx_340 {v0 v1 : Int} (h0 : 1 ≤ v0) (h1 : 1 ≤ v1) (h2 : v0 ≤ 0) : 0 ≤ v1 ∧ v1 ≤ 9999 := by omega
theorem omx_341 {v0 v1 v2 v3 : Int} (h0 : v0 ≤ 5 * (v1 - v2)) (h1 : 1 ≤ v3) (h2 : 0 ≤ v0) : v2 + 1 ≤ v1 + v3 := by omega
theorem omx_342 {v0 v1 : Int} (h0 : 1 ≤ v0) (h1 : v0 ≤ 0) : v1 ≠ 2 := by omega
theorem omx_343 {v0 v1 : Int} (h0 : v0 ≤ 5 * v1) (h1 : v1 ≤ 0) (h2 : 0 ≤ v0) : v1 = 0 := by omega
theorem omx_344 {v0 v1 v2 v3 v4 : Int} (h0 : v0 = v1) (h1 : v2 + 1 ≤ v1 + v3) (h2 : v0 ≤ v4) (h3 : v3 ≤ 0) : v2 ≤ v4 := by omega
theorem omx_345 {v0 v1 v2 v3 v4 : Int} (h0 : v0 = v1) (h1 : v2 + 1 ≤ v1 + v3) (h2 : v0 ≤ v4) : v2 + 1 ≤ v4 + v3 := by omega
theorem omx_346 {v0 : Int}  : v0 ≤ v0 + 1 := by omega
theorem omx_347 {v0 v1 : Int} (h0 : v0 ≤ 5) (h1 : v1 ≤ 0) : v0 ≤ 5 * (1 - v1) := by omega
theorem omx_348 {v0 v1 v2 v3 : Int} (h0 : v0 ≤ 5 * (v1 - v2)) (h1 : v3 ≤ 0) (h2 : 0 ≤ v0) : v2 + v3 ≤ v1 := by omega
theorem omx_349 {v0 v1 : Int} (h0 : 0 ≤ v0) (h1 : 0 ≤ v1) : -2147483648 ≤ v0 + v1 := by omega
theorem omx_350 {v0 v1 v2 v3 : Int} (h0 : v0 = - 1) : v0 = - 1 ∨ (v1 = 0 ∧ v2 + 1 ≤ v3) := by omega
theorem omx_351 {v0 : Int} (h0 : 2 ≤ v0) : (2 : Int) ≤ v0 := by omega
theorem omx_352 {v0 v1 : Int} (h0 : v0 ≤ 1) (h1 : v1 = 1) : v0 + v1 ≤ 2147483647 := by omega
theorem omx_353 {v0 v1 v2 v3 v4 : Int} (h0 : 0 ≤ v0) (h1 : v1 ≤ 5 * (1 - v2)) (h2 : v3 + v2 ≤ v4) (h3 : 0 ≤ v1) (h4 : 1 ≤ v2) : v0 = - 1 ∨ (v1 = 0 ∧ v3 + 1 ≤ v4) := by omega
theorem omx_354 {v0 : Int} (h0 : v0 ≤ 1) : v0 < (2 : Int) := by omega
theorem omx_355 {v0 : Int} (h0 : 4 ≤ v0) : (4 : Int) ≤ v0 := by omega
theorem omx_356 {v0 v1 : Int} (h0 : v0 ≤ 3) (h1 : v1 = 1) : v0 + v1 ≤ 2147483647 := by omega
theorem omx_357 {v0 : Int} (h0 : v0 ≤ 3) : v0 < (4 : Int) := by omega
theorem omx_358 {v0 : Int} (h0 : 5 ≤ v0) : (5 : Int) ≤ v0 := by omega
theorem omx_359 {v0 : Int} (h0 : v0 ≤ 4) : v0 < (5 : Int) := by omega
theorem omx_360 {v0 v1 v2 v3 v4 : Int} (h0 : v0 + v1 = 6) (h1 : 1 ≤ v1 + v2) (h2 : 1 ≤ v3) (h3 : v2 ≤ 0) (h4 : v4 = 1) (h5 : v3 = v0 + v4) : 0 ≤ v3 ∧ v3 ≤ 6 := by omega
theorem omx_361 {v0 v1 v2 v3 v4 v5 : Int} (h0 : v0 + v1 = 6) (h1 : 0 ≤ v2 ∧ v2 + 5 * v1 ≤ 35 ∧ v3 = v2 + 1 ∧ 0 ≤ v4 ∧ v4 + 20 * v1 ≤ 132) (h2 : v5 = 1) : -2147483648 ≤ v0 + v5 := by omega
theorem omx_362 {v0 v1 : Int} (h0 : v0 ≤ 6) (h1 : v1 = 1) : v0 + v1 ≤ 2147483647 := by omega
theorem omx_363 {v0 v1 v2 v3 v4 v5 : Int} (h0 : v0 + v1 ≤ v2 + 2000 * v3) (h1 : v3 ≤ 5 * v4) (h2 : v2 + 1 ≤ v5 + v4) (h3 : v3 ≤ 0) : v0 + v1 ≤ v5 + 2000 * v4 := by omega
theorem omx_364 {v0 v1 v2 v3 v4 v5 v6 v7 : Int} (h0 : 0 ≤ v0 ∧ v0 ≤ 700) (h1 : v0 + v1 ≤ v2 + 2000 * v3) (h2 : 0 ≤ v4 ∧ v4 + 5 * v5 ≤ 35 ∧ v6 = v4 + 1 ∧ 0 ≤ v1 ∧ v1 + 20 * v5 ≤ 132) (h3 : v3 ≤ 5 * v7) (h4 : v2 ≤ 700) : v3 ≤ 5 * v7 ∧ 0 ≤ v3 := by omega
theorem omx_365 {v0 v1 : Int} (h0 : 1 ≤ v0 + v1) (h1 : v1 ≤ 0) : 1 ≤ v0 := by omega
theorem omx_366 {v0 v1 v2 v3 : Int} (h0 : v0 ≤ 5 * v1) (h1 : v1 ≤ 5 * v2) (h2 : v2 ≤ 5 * v3) (h3 : v0 ≤ 0) : v0 ≤ 5 * v3 := by omega
theorem omx_367 {v0 v1 v2 v3 v4 v5 v6 v7 v8 v9 v10 : Int} (h0 : 0 ≤ v0 ∧ v0 ≤ 700) (h1 : v0 + v1 ≤ v2 + 2000 * v3) (h2 : 0 ≤ v4 ∧ v4 + 5 * v5 ≤ 35 ∧ v6 = v4 + 1 ∧ 0 ≤ v1 ∧ v1 + 20 * v5 ≤ 132) (h3 : v3 ≤ 5 * v7) (h4 : v2 + 1 ≤ v8 + v7) (h5 : v7 ≤ 5 * v9) (h6 : v9 ≤ 5 * v10) (h7 : v8 ≤ 700) : v9 ≤ 5 * v10 ∧ 0 ≤ v9 := by omega
theorem omx_368 {v0 v1 v2 v3 v4 v5 v6 : Int} (h0 : 0 ≤ v0 ∧ v0 ≤ 700) (h1 : v0 + v1 ≤ v2 + 2000 * v3) (h2 : 0 ≤ v4 ∧ v4 + 5 * v5 ≤ 35 ∧ v6 = v4 + 1 ∧ 0 ≤ v1 ∧ v1 + 20 * v5 ≤ 132) (h3 : v3 ≤ 0) (h4 : v2 ≤ 700) : v3 = 0 := by omega
theorem omx_369 {v0 v1 v2 v3 v4 v5 v6 v7 v8 : Int} (h0 : v0 ≤ 5 * (v1 - v2)) (h1 : 0 ≤ v3 ∧ v3 ≤ 700) (h2 : v3 + v4 ≤ v2 + 2000 * v5) (h3 : 0 ≤ v6 ∧ v6 + 5 * v7 ≤ 35 ∧ v8 = v6 + 1 ∧ 0 ≤ v4 ∧ v4 + 20 * v7 ≤ 132) (h4 : v1 ≤ 700) (h5 : 1 ≤ v0) : v3 ≤ 699 + 1000 * v5 := by omega
theorem omx_370 {v0 v1 v2 v3 : Int} (h0 : 0 ≤ v0 ∧ v0 + 5 * v1 ≤ 35 ∧ v2 = v0 + 1 ∧ 0 ≤ v3 ∧ v3 + 20 * v1 ≤ 132) (h1 : 0 ≤ v1) : 0 ≤ v0 ∧ v0 ≤ 63 := by omega
theorem omx_371 {v0 v1 v2 v3 : Int} (h0 : 0 ≤ v0 ∧ v0 + 5 * v1 ≤ 35 ∧ v2 = v0 + 1 ∧ 0 ≤ v3 ∧ v3 + 20 * v1 ≤ 132) : v2 = v0 + 1 := by omega
theorem omx_372 {v0 v1 v2 v3 v4 : Int} (h0 : v0 = v1) (h1 : v2 ≤ 5 * (v1 - v3)) (h2 : v0 ≤ v4) (h3 : 1 ≤ v2) : v3 ≤ v4 := by omega
theorem omx_373 {v0 v1 v2 v3 v4 v5 v6 v7 v8 : Int} (h0 : v0 = v1) (h1 : v2 ≤ 5 * (v1 - v3)) (h2 : v4 + v5 ≤ v3 + 2000 * v6) (h3 : v7 ≤ v4 + 1) (h4 : v0 ≤ v8) (h5 : 1 ≤ v2) : v7 + v5 ≤ v8 + 2000 * v6 := by omega
theorem omx_374 {v0 : Int} (h0 : 0 ≤ v0) : v0 ≠ - 1 := by omega
theorem omx_375 {v0 v1 v2 : Int} (h0 : v0 = - 1) (h1 : v1 = v0 - v2) : v1 = - 1 - v2 := by omega
theorem omx_376 {v0 v1 : Int} (h0 : v0 ≤ 3) (h1 : v1 = - 1) : -2147483648 ≤ v1 - v0 := by omega
theorem omx_377 {v0 v1 : Int} (h0 : 0 ≤ v0) (h1 : v1 = - 1) : v1 - v0 ≤ 2147483647 := by omega
theorem omx_378 {v0 v1 : Int} (h0 : 0 ≤ v0 ∧ v0 ≤ 700) (h1 : 1 ≤ v1) : v0 ≤ 699 + 1000 * v1 := by omega
theorem omx_379 {v0 v1 v2 v3 v4 v5 v6 v7 : Int} (h0 : 0 ≤ v0 ∧ v0 ≤ 700) (h1 : v0 + v1 ≤ v2 + 2000 * v3) (h2 : 0 ≤ v4 ∧ v4 + 5 * v5 ≤ 35 ∧ v6 = v4 + 1 ∧ 0 ≤ v1 ∧ v1 + 20 * v5 ≤ 132) (h3 : 1 ≤ v7) (h4 : v3 ≤ 0) (h5 : v2 ≤ 700) : v3 ≤ 5 * v7 ∧ 0 ≤ v3 := by omega
theorem omx_380 {v0 v1 v2 v3 v4 v5 v6 v7 : Int} (h0 : 1 ≤ v0 + v1) (h1 : 0 ≤ v2 ∧ v2 + 5 * v0 ≤ 35 ∧ v3 = v2 + 1 ∧ 0 ≤ v4 ∧ v4 + 20 * v0 ≤ 132) (h2 : 1 ≤ v5) (h3 : 0 ≤ v6 ∧ v6 ≤ 700) (h4 : 0 ≤ v7) (h5 : v1 ≤ 0) : v6 + v4 ≤ v7 + 2000 * v5 := by omega
theorem omx_381 {v0 v1 : Int} (h0 : 1 ≤ v0) (h1 : v1 ≤ 1) (h2 : v0 ≤ 0) : v1 = 1 := by omega
theorem omx_382 {v0 v1 v2 v3 v4 v5 v6 v7 v8 v9 : Int} (h0 : v0 ≤ 5 * (v1 - v2)) (h1 : 0 ≤ v3 ∧ v3 ≤ 700) (h2 : v3 + v4 ≤ v2 + 2000 * v5) (h3 : 0 ≤ v6 ∧ v6 + 5 * v7 ≤ 35 ∧ v8 = v6 + 1 ∧ 0 ≤ v4 ∧ v4 + 20 * v7 ≤ 132) (h4 : v5 ≤ 5 * v9) (h5 : v1 ≤ 700) (h6 : 2 ≤ v0) : v5 ≤ 5 * v9 ∧ 0 ≤ v5 := by omega
theorem omx_383 {v0 v1 v2 v3 v4 v5 v6 : Int} (h0 : v0 + v1 ≤ v2 + 2000 * v3) (h1 : v3 ≤ 5 * v4) (h2 : v2 + 1 ≤ v5 + v4) (h3 : v6 ≤ v0 + 1) (h4 : v3 ≤ 0) : v6 + v1 ≤ v5 + 2000 * v4 := by omega
theorem omx_384 {v0 v1 v2 v3 v4 v5 v6 v7 v8 : Int} (h0 : v0 ≤ 5 * (v1 - v2)) (h1 : 0 ≤ v3 ∧ v3 ≤ 700) (h2 : v3 + v4 ≤ v2 + 2000 * v5) (h3 : 0 ≤ v6 ∧ v6 + 5 * v7 ≤ 35 ∧ v8 = v6 + 1 ∧ 0 ≤ v4 ∧ v4 + 20 * v7 ≤ 132) (h4 : v5 ≤ 0) (h5 : v1 ≤ 700) (h6 : 2 ≤ v0) : v5 = 0 := by omega
theorem omx_385 {v0 v1 v2 v3 v4 v5 v6 v7 v8 : Int} (h0 : v0 ≤ 5 * v1) (h1 : 0 ≤ v2 ∧ v2 ≤ 700) (h2 : v2 + v3 ≤ v4 + 2000 * v0) (h3 : 0 ≤ v5 ∧ v5 + 5 * v6 ≤ 34 ∧ v7 = v5 + 1 ∧ 0 ≤ v3 ∧ v3 + 20 * v6 ≤ 131) (h4 : v1 ≤ 5 * (1 - v8)) (h5 : v4 ≤ 700) (h6 : 1 ≤ v8) : v1 = 0 := by omega
theorem omx_386 {v0 v1 v2 : Int} (h0 : v0 ≤ 5 * v1) (h1 : 1 ≤ v2 + v0) (h2 : 0 ≤ v2) : 1 ≤ v2 + v1 := by omega
theorem omx_387 {v0 v1 v2 v3 v4 v5 v6 v7 : Int} (h0 : v0 = v1) (h1 : v2 + v3 ≤ v4 + 2000 * v5) (h2 : v4 + v6 ≤ v1) (h3 : v0 ≤ v7) (h4 : 1 ≤ v6) : v2 + (v3 + 1) ≤ v7 + 2000 * v5 := by omega
theorem omx_388 {v0 v1 v2 v3 : Int} (h0 : 0 ≤ v0 ∧ v0 + 5 * v1 ≤ 34 ∧ v2 = v0 + 1 ∧ 0 ≤ v3 ∧ v3 + 20 * v1 ≤ 131) : 0 ≤ v2 ∧ v2 + 5 * v1 ≤ 35 ∧ (v2 + 1) = v2 + 1 ∧ 0 ≤ (v3 + 1) ∧ (v3 + 1) + 20 * v1 ≤ 132 := by omega
theorem omx_389 {v0 v1 v2 v3 v4 v5 v6 : Int} (h0 : 0 ≤ v0 ∧ v0 + 5 * v1 ≤ 34 ∧ v2 = v0 + 1 ∧ 0 ≤ v3 ∧ v3 + 20 * v1 ≤ 131) (h1 : 0 ≤ v4 ∧ v4 ≤ 700) (h2 : v4 + (v3 + 1) ≤ v5 + 2000 * v6) (h3 : v5 ≤ 700) : v4 ≤ 699 + 1000 * v6 := by omega
theorem omx_390 {v0 v1 v2 v3 : Int} (h0 : 0 ≤ v0 ∧ v0 + 5 * v1 ≤ 34 ∧ v2 = v0 + 1 ∧ 0 ≤ v3 ∧ v3 + 20 * v1 ≤ 131) (h1 : 0 ≤ v1) : 2 ≤ (v2 + 1) ∧ (v2 + 1) ≤ 64 := by omega
theorem omx_391 {v0 : Int}  : v0 = (v0 + 1) - 1 := by omega
theorem omx_392 {v0 v1 v2 v3 v4 v5 v6 : Int} (h0 : v0 = v1) (h1 : v2 ≤ v3) (h2 : v3 + v4 ≤ v1) (h3 : v0 ≤ v5) (h4 : v5 ≤ v6) (h5 : 1 ≤ v4) : v2 ≤ v6 := by omega
theorem omx_393 {v0 v1 v2 v3 : Int} (h0 : v0 ≤ 5 * v1) (h1 : v1 ≤ 5 * (1 - v2)) (h2 : v1 ≤ 5 * v3) (h3 : 1 ≤ v2) : v0 ≤ 5 * v3 := by omega
theorem omx_394 {v0 v1 v2 v3 v4 : Int} (h0 : v0 + (v1 + 1) ≤ v2 + 2000 * v3) (h1 : v4 ≤ v0 + 1) : v4 + v1 ≤ v2 + 2000 * v3 := by omega
theorem omx_395 {v0 v1 v2 v3 : Int} (h0 : 0 ≤ v0 ∧ v0 + 5 * v1 ≤ 34 ∧ v2 = v0 + 1 ∧ 0 ≤ v3 ∧ v3 + 20 * v1 ≤ 131) : 0 ≤ v0 ∧ v0 + 5 * v1 ≤ 35 ∧ v2 = v0 + 1 ∧ 0 ≤ v3 ∧ v3 + 20 * v1 ≤ 132 := by omega
theorem omx_396 {v0 v1 v2 v3 v4 v5 v6 v7 v8 : Int} (h0 : v0 ≤ 5 * v1) (h1 : 0 ≤ v2 ∧ v2 ≤ 700) (h2 : v2 + v3 ≤ v4 + 2000 * v0) (h3 : 0 ≤ v5 ∧ v5 + 5 * v6 ≤ 33 ∧ v7 = v5 + 1 ∧ 0 ≤ v3 ∧ v3 + 20 * v6 ≤ 130) (h4 : v1 ≤ 5 * (1 - v8)) (h5 : v4 ≤ 700) (h6 : 1 ≤ v8) : v1 = 0 := by omega
theorem omx_397 {v0 v1 v2 v3 : Int} (h0 : 0 ≤ v0 ∧ v0 + 5 * v1 ≤ 33 ∧ v2 = v0 + 1 ∧ 0 ≤ v3 ∧ v3 + 20 * v1 ≤ 130) : 0 ≤ v2 ∧ v2 + 5 * v1 ≤ 34 ∧ (v2 + 1) = v2 + 1 ∧ 0 ≤ (v3 + 1) ∧ (v3 + 1) + 20 * v1 ≤ 131 := by omega
theorem omx_398 {v0 v1 v2 v3 v4 v5 v6 : Int} (h0 : 0 ≤ v0 ∧ v0 + 5 * v1 ≤ 33 ∧ v2 = v0 + 1 ∧ 0 ≤ v3 ∧ v3 + 20 * v1 ≤ 130) (h1 : 0 ≤ v4 ∧ v4 ≤ 700) (h2 : v4 + (v3 + 1) ≤ v5 + 2000 * v6) (h3 : v5 ≤ 700) : v4 ≤ 699 + 1000 * v6 := by omega
theorem omx_399 {v0 v1 v2 v3 : Int} (h0 : 0 ≤ v0 ∧ v0 + 5 * v1 ≤ 33 ∧ v2 = v0 + 1 ∧ 0 ≤ v3 ∧ v3 + 20 * v1 ≤ 130) (h1 : 0 ≤ v1) : 2 ≤ (v2 + 1) ∧ (v2 + 1) ≤ 64 := by omega
theorem omx_400 {v0 v1 v2 v3 : Int} (h0 : 0 ≤ v0 ∧ v0 + 5 * v1 ≤ 33 ∧ v2 = v0 + 1 ∧ 0 ≤ v3 ∧ v3 + 20 * v1 ≤ 130) : 0 ≤ v0 ∧ v0 + 5 * v1 ≤ 34 ∧ v2 = v0 + 1 ∧ 0 ≤ v3 ∧ v3 + 20 * v1 ≤ 131 := by omega
theorem omx_401 {v0 v1 v2 v3 v4 v5 : Int} (h0 : v0 + (v1 + v2 - v3) ≤ v4 + 2000 * v5) (h1 : v3 ≤ v2) : v0 + v1 ≤ v4 + 2000 * v5 := by omega
theorem omx_402 {v0 v1 v2 v3 v4 v5 v6 v7 v8 : Int} (h0 : 0 ≤ v0 ∧ v0 ≤ 700) (h1 : v0 + (v1 + v2 - v3) ≤ v4 + 2000 * v5) (h2 : 0 ≤ v6 ∧ v6 + 5 * v7 ≤ 32 ∧ v8 = v6 + 1 ∧ 0 ≤ v1 ∧ v1 + 20 * v7 ≤ 122) (h3 : v4 ≤ 700) (h4 : v3 < v2) : v0 ≤ 699 + 1000 * v5 := by omega
theorem omx_403 {v0 v1 v2 v3 : Int} (h0 : 0 ≤ v0 ∧ v0 + 5 * v1 ≤ 32 ∧ v2 = v0 + 1 ∧ 0 ≤ v3 ∧ v3 + 20 * v1 ≤ 122) (h1 : 0 ≤ v1) : 1 ≤ v2 ∧ v2 ≤ 64 := by omega
theorem omx_404 {v0 v1 v2 v3 v4 v5 v6 v7 v8 : Int} (h0 : v0 + (v1 + v2 - v3) ≤ v4 + 2000 * v5) (h1 : v6 ≤ v0 + 1) (h2 : v7 = 1) (h3 : v8 = v3 + v7) : v6 + (v1 + v2 - v8) ≤ v4 + 2000 * v5 := by omega
theorem omx_405 {v0 v1 v2 : Int} (h0 : v0 ≤ 7) (h1 : v1 ≤ v0) (h2 : v2 = 1) : v1 + v2 ≤ 2147483647 := by omega
theorem omx_406 {v0 v1 v2 : Int} (h0 : 0 ≤ v0) (h1 : v1 = 1) (h2 : v2 = v0 + v1) : 0 ≤ v2 := by omega
theorem omx_407 {v0 v1 v2 v3 v4 : Int} (h0 : 0 ≤ v0) (h1 : v0 ≤ 7) (h2 : 0 ≤ v1 ∧ v1 + 5 * v2 ≤ 32 ∧ v3 = v1 + 1 ∧ 0 ≤ v4 ∧ v4 + 20 * v2 ≤ 122) : 0 ≤ v1 ∧ v1 + 5 * v2 ≤ 33 ∧ v3 = v1 + 1 ∧ 0 ≤ (v4 + v0) ∧ (v4 + v0) + 20 * v2 ≤ 130 := by omega
theorem omx_408 {v0 v1 v2 v3 v4 v5 v6 v7 v8 v9 : Int} (h0 : v0 ≤ 5 * v1) (h1 : 0 ≤ v2 ∧ v2 ≤ 700) (h2 : v2 + v3 ≤ v4 + 2000 * v0) (h3 : 0 ≤ v5 ∧ v5 + 5 * v6 ≤ 32 ∧ v7 = v5 + 1 ∧ 0 ≤ v3 ∧ v3 + 20 * v6 ≤ 122) (h4 : v1 ≤ 5 * v8) (h5 : v8 ≤ 5 * (1 - v9)) (h6 : v4 ≤ 700) (h7 : 1 ≤ v9) : v8 = 0 := by omega
theorem omx_409 {v0 v1 v2 v3 v4 v5 v6 v7 v8 : Int} (h0 : v0 = v1) (h1 : v2 + (v3 + v4) ≤ v5 + 2000 * v6) (h2 : v5 + v7 ≤ v1) (h3 : v0 ≤ v8) (h4 : 1 ≤ v7) : v2 + (v3 + v4 + 1) ≤ v8 + 2000 * v6 := by omega
theorem omx_410 {v0 v1 v2 v3 v4 : Int} (h0 : 0 ≤ v0) (h1 : v0 ≤ 7) (h2 : 0 ≤ v1 ∧ v1 + 5 * v2 ≤ 32 ∧ v3 = v1 + 1 ∧ 0 ≤ v4 ∧ v4 + 20 * v2 ≤ 122) : 0 ≤ v3 ∧ v3 + 5 * v2 ≤ 33 ∧ (v3 + 1) = v3 + 1 ∧ 0 ≤ (v4 + v0 + 1) ∧ (v4 + v0 + 1) + 20 * v2 ≤ 130 := by omega
theorem omx_411 {v0 v1 v2 v3 v4 v5 v6 v7 : Int} (h0 : 0 ≤ v0) (h1 : 0 ≤ v1 ∧ v1 + 5 * v2 ≤ 32 ∧ v3 = v1 + 1 ∧ 0 ≤ v4 ∧ v4 + 20 * v2 ≤ 122) (h2 : 0 ≤ v5 ∧ v5 ≤ 700) (h3 : v5 + (v4 + v0 + 1) ≤ v6 + 2000 * v7) (h4 : v6 ≤ 700) : v5 ≤ 699 + 1000 * v7 := by omega
theorem omx_412 {v0 v1 v2 v3 : Int} (h0 : 0 ≤ v0 ∧ v0 + 5 * v1 ≤ 32 ∧ v2 = v0 + 1 ∧ 0 ≤ v3 ∧ v3 + 20 * v1 ≤ 122) (h1 : 0 ≤ v1) : 2 ≤ (v2 + 1) ∧ (v2 + 1) ≤ 64 := by omega
theorem omx_413 {v0 v1 v2 v3 v4 v5 v6 v7 : Int} (h0 : v0 ≤ v1) (h1 : v2 = v3) (h2 : v1 ≤ v4) (h3 : v4 + v5 ≤ v3) (h4 : v2 ≤ v6) (h5 : v6 ≤ v7) (h6 : 1 ≤ v5) : v0 ≤ v7 := by omega
theorem omx_414 {v0 v1 v2 v3 v4 : Int} (h0 : v0 ≤ 5 * v1) (h1 : v1 ≤ 5 * v2) (h2 : v2 ≤ 5 * (1 - v3)) (h3 : v2 ≤ 5 * v4) (h4 : 1 ≤ v3) : v0 ≤ 5 * v4 := by omega
theorem omx_415 {v0 v1 v2 v3 v4 v5 v6 : Int} (h0 : v0 + (v1 + v2 + 1) ≤ v3 + 2000 * v4) (h1 : v5 ≤ v0 + 1) (h2 : v6 = 0) : v5 + (v1 + v2 - v6) ≤ v3 + 2000 * v4 := by omega
theorem omx_416 {v0 v1 : Int} (h0 : 0 ≤ v0) (h1 : v1 = 0) : v1 ≤ v0 := by omega
theorem omx_417 {v0 v1 v2 v3 v4 v5 : Int} (h0 : v0 + (v1 + v2) ≤ v3 + 2000 * v4) (h1 : v5 = 0) : v0 + (v1 + v2 - v5) ≤ v3 + 2000 * v4 := by omega
theorem omx_418 {v0 v1 v2 v3 v4 v5 v6 v7 v8 v9 : Int} (h0 : 0 ≤ v0 ∧ v0 ≤ 700) (h1 : v1 ≤ 6 + v2) (h2 : 1 ≤ v3 + v2) (h3 : 0 ≤ v4 ∧ v4 + 5 * v3 ≤ 32 ∧ v5 = v4 + 1 ∧ 0 ≤ v6 ∧ v6 + 20 * v3 ≤ 122) (h4 : 0 ≤ v7) (h5 : 1 ≤ v2) (h6 : v8 = 1) (h7 : v9 = v1 + v8) : v0 + (v6 + v9) ≤ v7 + 2000 * v2 := by omega
theorem omx_419 {v0 v1 v2 : Int} (h0 : v0 ≤ 5 * (1 - v1)) (h1 : 1 ≤ v0) (h2 : 1 ≤ v1) : v2 ≤ 7 := by omega
theorem omx_420 {v0 v1 v2 v3 v4 v5 v6 v7 v8 v9 v10 v11 : Int} (h0 : 0 ≤ v0) (h1 : 0 ≤ v1 ∧ v1 ≤ 700) (h2 : v1 + v2 ≤ v3 + 2000 * v4) (h3 : 0 ≤ v5 ∧ v5 + 5 * v6 ≤ 32 ∧ v7 = v5 + 1 ∧ 0 ≤ v2 ∧ v2 + 20 * v6 ≤ 122) (h4 : v8 ≤ 5 * (1 - v9)) (h5 : v3 ≤ 700) (h6 : 1 ≤ v8) (h7 : 1 ≤ v9) (h8 : v10 = 1) (h9 : v11 = v0 + v10) : v11 = 0 ∨ v4 = 0 := by omega
theorem omx_421 {v0 v1 v2 : Int} (h0 : v0 ≤ 5 * (1 - v1)) (h1 : 1 ≤ v0) (h2 : 1 ≤ v1) : v2 ≤ 6 + v0 := by omega
theorem omx_422 {v0 v1 v2 v3 v4 v5 v6 v7 v8 : Int} (h0 : 0 ≤ v0 ∧ v0 ≤ 700) (h1 : v0 + (v1 + v2) ≤ v3 + 2000 * v4) (h2 : 0 ≤ v2) (h3 : 0 ≤ v5 ∧ v5 + 5 * v6 ≤ 32 ∧ v7 = v5 + 1 ∧ 0 ≤ v1 ∧ v1 + 20 * v6 ≤ 122) (h4 : v4 ≤ 5 * (1 - v8)) (h5 : 1 ≤ v8) (h6 : v3 ≤ 700) (h7 : 1 ≤ v4) : v8 = 0 ∧ v8 = 77 := by omega
theorem omx_423 {v0 v1 v2 v3 v4 v5 v6 v7 : Int} (h0 : v0 ≤ 5 * v1) (h1 : 0 ≤ v2 ∧ v2 ≤ 700) (h2 : v2 + v3 ≤ v4 + 2000 * v0) (h3 : 0 ≤ v5 ∧ v5 + 5 * v6 ≤ 32 ∧ v7 = v5 + 1 ∧ 0 ≤ v3 ∧ v3 + 20 * v6 ≤ 122) (h4 : v1 ≤ 0) (h5 : v4 ≤ 700) : v1 = 0 := by omega
theorem omx_424 {v0 v1 v2 v3 v4 v5 : Int} (h0 : v0 = v1) (h1 : v2 ≤ v3) (h2 : v3 + v4 ≤ v1) (h3 : v0 ≤ v5) (h4 : 1 ≤ v4) : v2 ≤ v5 := by omega
theorem omx_425 {v0 v1 v2 v3 v4 v5 v6 v7 v8 v9 v10 : Int} (h0 : v0 = v1) (h1 : v2 + (v3 + v4) ≤ v5 + 2000 * v6) (h2 : v5 + v7 ≤ v1) (h3 : v0 ≤ v8) (h4 : 1 ≤ v7) (h5 : v9 = 1) (h6 : v10 = v4 + v9) : v2 + (v3 + v10) ≤ v8 + 2000 * v6 := by omega
theorem omx_426 {v0 v1 v2 v3 : Int} (h0 : v0 ≤ 6 + v1) (h1 : v1 ≤ 0) (h2 : v2 = 1) (h3 : v3 = v0 + v2) : v3 ≤ 7 := by omega
theorem omx_427 {v0 v1 v2 v3 v4 v5 v6 v7 v8 v9 v10 : Int} (h0 : v0 ≤ 5 * v1) (h1 : 0 ≤ v2) (h2 : 0 ≤ v3 ∧ v3 ≤ 700) (h3 : v3 + v4 ≤ v5 + 2000 * v0) (h4 : 0 ≤ v6 ∧ v6 + 5 * v7 ≤ 32 ∧ v8 = v6 + 1 ∧ 0 ≤ v4 ∧ v4 + 20 * v7 ≤ 122) (h5 : v5 ≤ 700) (h6 : v1 ≤ 0) (h7 : v9 = 1) (h8 : v10 = v2 + v9) : v10 = 0 ∨ v0 = 0 := by omega
theorem omx_428 {v0 v1 v2 v3 v4 v5 v6 v7 v8 v9 v10 v11 : Int} (h0 : v0 ≤ 5 * v1) (h1 : v2 = 0 ∨ v0 = 0) (h2 : v2 ≤ 6 + v1) (h3 : 0 ≤ v3 ∧ v3 ≤ 700) (h4 : v3 + v4 ≤ v5 + 2000 * v0) (h5 : 0 ≤ v6 ∧ v6 + 5 * v7 ≤ 32 ∧ v8 = v6 + 1 ∧ 0 ≤ v4 ∧ v4 + 20 * v7 ≤ 122) (h6 : v1 ≤ 0) (h7 : v5 ≤ 700) (h8 : v9 = 1) (h9 : v10 = 6) (h10 : v2 ≠ v10) (h11 : v11 = v2 + v9) : v11 ≤ 6 + v1 := by omega
theorem omx_429 {v0 v1 v2 v3 : Int} (h0 : v0 = 0 ∨ v1 = 0) (h1 : v0 ≤ 6 + v2) (h2 : v2 ≤ 0) (h3 : v3 = 6) (h4 : v0 ≠ v3) : v0 < 6 := by omega
theorem omx_430 {v0 v1 v2 v3 : Int} (h0 : v0 ≤ 5 * v1) (h1 : v1 ≤ 5 * (1 - v2)) (h2 : 1 ≤ v3) (h3 : 1 ≤ v2) : v0 ≤ 5 * v3 := by omega
theorem omx_431 {v0 v1 v2 v3 v4 v5 v6 v7 : Int} (h0 : 0 ≤ v0 ∧ v0 ≤ 700) (h1 : 0 ≤ v1 ∧ v1 + 5 * v2 ≤ 32 ∧ v3 = v1 + 1 ∧ 0 ≤ v4 ∧ v4 + 20 * v2 ≤ 122) (h2 : 1 ≤ v5) (h3 : v6 ≤ 7) (h4 : 0 ≤ v7) (h5 : 0 ≤ v2) : v0 + (v4 + v6) ≤ v7 + 2000 * v5 := by omega
theorem omx_432 {v0 : Int} (h0 : 7 ≤ v0) : 0 ≤ v0 := by omega
theorem omx_433 {v0 : Int} (h0 : v0 ≤ 7) : v0 ≤ 7 := by omega
theorem omx_434 {v0 v1 v2 v3 v4 v5 v6 v7 v8 v9 : Int} (h0 : v0 ≤ 5 * v1) (h1 : 0 ≤ v2 ∧ v2 ≤ 700) (h2 : v2 + v3 ≤ v4 + 2000 * v0) (h3 : 0 ≤ v5 ∧ v5 + 5 * v6 ≤ 32 ∧ v7 = v5 + 1 ∧ 0 ≤ v3 ∧ v3 + 20 * v6 ≤ 122) (h4 : v1 ≤ 5 * (1 - v8)) (h5 : 7 ≤ v9) (h6 : v4 ≤ 700) (h7 : 1 ≤ v8) : v9 = 0 ∨ v0 = 0 := by omega
theorem omx_435 {v0 v1 : Int} (h0 : 1 ≤ v0) (h1 : v1 ≤ 7) : v1 ≤ 6 + v0 := by omega
theorem omx_436 {v0 : Int} (h0 : 7 ≤ v0) (h1 : v0 ≤ 7) : v0 = 7 := by omega
theorem omx_437 {v0 v1 : Int} (h0 : 1 ≤ v0) (h1 : v0 ≤ 0) : v1 ≤ 5 * v0 := by omega
theorem omx_438 {v0 v1 v2 v3 v4 v5 v6 v7 v8 v9 : Int} (h0 : v0 ≤ 5 * v1) (h1 : 0 ≤ v2 ∧ v2 ≤ 700) (h2 : v2 + v3 ≤ v4 + 2000 * v0) (h3 : 0 ≤ v5 ∧ v5 + 5 * v6 ≤ 32 ∧ v7 = v5 + 1 ∧ 0 ≤ v3 ∧ v3 + 20 * v6 ≤ 122) (h4 : v1 ≤ 5 * (1 - v8)) (h5 : 1 ≤ v9) (h6 : v4 ≤ 700) (h7 : 1 ≤ v8) : v1 ≤ 5 * v9 ∧ 0 ≤ v1 := by omega
theorem omx_439 {v0 v1 : Int} (h0 : 1 ≤ v0) (h1 : v0 ≤ 0) : v1 ≤ 7 := by omega
theorem omx_440 {v0 v1 v2 v3 v4 v5 v6 v7 v8 : Int} (h0 : 0 ≤ v0 ∧ v0 ≤ 700) (h1 : v0 + v1 ≤ v2 + 2000 * v3) (h2 : 0 ≤ v4 ∧ v4 + 5 * v5 ≤ 32 ∧ v6 = v4 + 1 ∧ 0 ≤ v1 ∧ v1 + 20 * v5 ≤ 122) (h3 : 1 ≤ v7) (h4 : 7 ≤ v8) (h5 : v2 ≤ 700) (h6 : v7 ≤ 0) : v8 = 0 ∨ v3 = 0 := by omega
theorem omx_441 {v0 v1 : Int} (h0 : 1 ≤ v0) (h1 : v0 ≤ 0) : v1 ≤ 6 + v0 := by omega
theorem omx_442 {v0 v1 : Int} (h0 : 1 ≤ v0) (h1 : v0 ≤ 0) : 1 ≤ v1 + v0 := by omega
theorem omx_443 {v0 v1 v2 v3 v4 : Int} (h0 : v0 + v1 ≤ v2 + 2000 * v3) (h1 : v4 = 0) : v0 + (v1 + v4) ≤ v2 + 2000 * v3 := by omega
theorem omx_444 {v0 : Int} (h0 : v0 = 0) : v0 ≤ 7 := by omega
theorem omx_445 {v0 v1 v2 v3 v4 v5 v6 v7 : Int} (h0 : 0 ≤ v0 ∧ v0 ≤ 700) (h1 : v0 + v1 ≤ v2 + 2000 * v3) (h2 : 0 ≤ v4 ∧ v4 + 5 * v5 ≤ 32 ∧ v6 = v4 + 1 ∧ 0 ≤ v1 ∧ v1 + 20 * v5 ≤ 122) (h3 : v7 = 0) (h4 : v2 ≤ 700) : v7 = 0 ∨ v3 = 0 := by omega
theorem omx_446 {v0 v1 v2 v3 v4 v5 v6 v7 : Int} (h0 : 0 ≤ v0 ∧ v0 ≤ 700) (h1 : v0 + v1 ≤ v2 + 2000 * v3) (h2 : 0 ≤ v4 ∧ v4 + 5 * v5 ≤ 32 ∧ v6 = v4 + 1 ∧ 0 ≤ v1 ∧ v1 + 20 * v5 ≤ 122) (h3 : v7 = 0) (h4 : v2 ≤ 700) : v7 ≤ 6 + v3 := by omega
theorem omx_447 {v0 v1 v2 v3 v4 v5 v6 v7 v8 : Int} (h0 : v0 ≤ 5 * v1) (h1 : 0 ≤ v2 ∧ v2 ≤ 700) (h2 : v2 + v3 ≤ v4 + 2000 * v0) (h3 : 0 ≤ v5 ∧ v5 + 5 * v6 ≤ 31 ∧ v7 = v5 + 1 ∧ 0 ≤ v3 ∧ v3 + 20 * v6 ≤ 121) (h4 : v1 ≤ 5 * (1 - v8)) (h5 : v4 ≤ 700) (h6 : 1 ≤ v8) : v1 = 0 := by omega
theorem omx_448 {v0 v1 v2 v3 : Int} (h0 : 0 ≤ v0 ∧ v0 + 5 * v1 ≤ 31 ∧ v2 = v0 + 1 ∧ 0 ≤ v3 ∧ v3 + 20 * v1 ≤ 121) : 0 ≤ v2 ∧ v2 + 5 * v1 ≤ 32 ∧ (v2 + 1) = v2 + 1 ∧ 0 ≤ (v3 + 1) ∧ (v3 + 1) + 20 * v1 ≤ 122 := by omega
theorem omx_449 {v0 v1 v2 v3 v4 v5 v6 : Int} (h0 : 0 ≤ v0 ∧ v0 + 5 * v1 ≤ 31 ∧ v2 = v0 + 1 ∧ 0 ≤ v3 ∧ v3 + 20 * v1 ≤ 121) (h1 : 0 ≤ v4 ∧ v4 ≤ 700) (h2 : v4 + (v3 + 1) ≤ v5 + 2000 * v6) (h3 : v5 ≤ 700) : v4 ≤ 699 + 1000 * v6 := by omega
theorem omx_450 {v0 v1 v2 v3 : Int} (h0 : 0 ≤ v0 ∧ v0 + 5 * v1 ≤ 31 ∧ v2 = v0 + 1 ∧ 0 ≤ v3 ∧ v3 + 20 * v1 ≤ 121) (h1 : 0 ≤ v1) : 2 ≤ (v2 + 1) ∧ (v2 + 1) ≤ 64 := by omega
theorem omx_451 {v0 v1 v2 v3 : Int} (h0 : 0 ≤ v0 ∧ v0 + 5 * v1 ≤ 31 ∧ v2 = v0 + 1 ∧ 0 ≤ v3 ∧ v3 + 20 * v1 ≤ 121) : 0 ≤ v0 ∧ v0 + 5 * v1 ≤ 32 ∧ v2 = v0 + 1 ∧ 0 ≤ v3 ∧ v3 + 20 * v1 ≤ 122 := by omega
theorem omx_452 {v0 v1 v2 v3 v4 v5 v6 v7 v8 : Int} (h0 : v0 ≤ 5 * v1) (h1 : 0 ≤ v2 ∧ v2 ≤ 700) (h2 : v2 + v3 ≤ v4 + 2000 * v0) (h3 : 0 ≤ v5 ∧ v5 + 5 * v6 ≤ 30 ∧ v7 = v5 + 1 ∧ 0 ≤ v3 ∧ v3 + 20 * v6 ≤ 120) (h4 : v1 ≤ 5 * (1 - v8)) (h5 : v4 ≤ 700) (h6 : 1 ≤ v8) : v1 = 0 := by omega
theorem omx_453 {v0 v1 v2 v3 : Int} (h0 : 0 ≤ v0 ∧ v0 + 5 * v1 ≤ 30 ∧ v2 = v0 + 1 ∧ 0 ≤ v3 ∧ v3 + 20 * v1 ≤ 120) : 0 ≤ v2 ∧ v2 + 5 * v1 ≤ 31 ∧ (v2 + 1) = v2 + 1 ∧ 0 ≤ (v3 + 1) ∧ (v3 + 1) + 20 * v1 ≤ 121 := by omega
theorem omx_454 {v0 v1 v2 v3 v4 v5 v6 : Int} (h0 : 0 ≤ v0 ∧ v0 + 5 * v1 ≤ 30 ∧ v2 = v0 + 1 ∧ 0 ≤ v3 ∧ v3 + 20 * v1 ≤ 120) (h1 : 0 ≤ v4 ∧ v4 ≤ 700) (h2 : v4 + (v3 + 1) ≤ v5 + 2000 * v6) (h3 : v5 ≤ 700) : v4 ≤ 699 + 1000 * v6 := by omega
theorem omx_455 {v0 v1 v2 v3 : Int} (h0 : 0 ≤ v0 ∧ v0 + 5 * v1 ≤ 30 ∧ v2 = v0 + 1 ∧ 0 ≤ v3 ∧ v3 + 20 * v1 ≤ 120) (h1 : 0 ≤ v1) : 2 ≤ (v2 + 1) ∧ (v2 + 1) ≤ 64 := by omega
theorem omx_456 {v0 v1 v2 v3 : Int} (h0 : 1 ≤ v0 + v1) (h1 : v1 ≤ 5 * (1 - v2)) (h2 : v1 ≤ 5 * v3) (h3 : 1 ≤ v2) : 1 ≤ v0 + v3 := by omega
theorem omx_457 {v0 v1 v2 : Int} (h0 : v0 + v1 = 6) (h1 : 0 ≤ v2) (h2 : v0 ≤ 5) : 1 ≤ v1 + v2 := by omega
theorem omx_458 {v0 v1 v2 v3 : Int} (h0 : 0 ≤ v0 ∧ v0 + 5 * v1 ≤ 30 ∧ v2 = v0 + 1 ∧ 0 ≤ v3 ∧ v3 + 20 * v1 ≤ 120) : 0 ≤ v0 ∧ v0 + 5 * v1 ≤ 31 ∧ v2 = v0 + 1 ∧ 0 ≤ v3 ∧ v3 + 20 * v1 ≤ 121 := by omega
theorem omx_459 {v0 v1 v2 v3 : Int} (h0 : v0 + v1 = 6) (h1 : v2 ≤ 5 * v3) (h2 : v0 ≤ 5) (h3 : 0 ≤ v2) : 1 ≤ v1 + v3 := by omega
theorem omx_460 {v0 v1 v2 v3 v4 v5 v6 v7 v8 : Int} (h0 : v0 ≤ 5 * (v1 - v2)) (h1 : 0 ≤ v3 ∧ v3 ≤ 700) (h2 : v3 + v4 ≤ v2 + 2000 * v5) (h3 : 0 ≤ v6 ∧ v6 + 5 * v7 ≤ 30 ∧ v8 = v6 + 1 ∧ 0 ≤ v4 ∧ v4 + 20 * v7 ≤ 120) (h4 : v5 ≤ 0) (h5 : v1 ≤ 700) (h6 : 2 ≤ v0) : v5 = 0 := by omega
theorem omx_461 {v0 v1 v2 v3 v4 v5 v6 : Int} (h0 : 0 ≤ v0 ∧ v0 ≤ 700) (h1 : 0 ≤ v1 ∧ v1 + 5 * v2 ≤ 30 ∧ v3 = v1 + 1 ∧ 0 ≤ v4 ∧ v4 + 20 * v2 ≤ 120) (h2 : 1 ≤ v5) (h3 : 0 ≤ v6) (h4 : 0 ≤ v2) : v0 + v4 ≤ v6 + 2000 * v5 := by omega
theorem omx_462 {v0 v1 v2 v3 v4 v5 v6 v7 v8 v9 : Int} (h0 : v0 ≤ 5 * (v1 - v2)) (h1 : 0 ≤ v3 ∧ v3 ≤ 700) (h2 : v3 + v4 ≤ v2 + 2000 * v5) (h3 : 0 ≤ v6 ∧ v6 + 5 * v7 ≤ 30 ∧ v8 = v6 + 1 ∧ 0 ≤ v4 ∧ v4 + 20 * v7 ≤ 120) (h4 : 1 ≤ v9) (h5 : v5 ≤ 0) (h6 : v1 ≤ 700) (h7 : 2 ≤ v0) : v5 ≤ 5 * v9 ∧ 0 ≤ v5 := by omega
theorem omx_463 {v0 v1 v2 : Int} (h0 : 1 ≤ v0) (h1 : v0 ≤ 5 * v1) (h2 : 0 ≤ v2) : 1 ≤ v2 + v1 := by omega
theorem omx_464 {v0 : Int} (h0 : 2 ≤ v0) (h1 : v0 ≤ 2) : v0 = 2 ∨ v0 = 1 := by omega
theorem omx_465 {v0 v1 : Int} (h0 : 1 ≤ v0) (h1 : v0 ≤ 5 * v1) : v1 ≠ 0 := by omega
theorem omx_466 {v0 v1 v2 v3 v4 v5 v6 : Int} (h0 : 0 ≤ v0 ∧ v0 ≤ 700) (h1 : v0 + v1 ≤ v2 + 2000 * v3) (h2 : 0 ≤ v4 ∧ v4 + 5 * v5 ≤ 30 ∧ v6 = v4 + 1 ∧ 0 ≤ v1 ∧ v1 + 20 * v5 ≤ 120) (h3 : v3 ≤ 0) (h4 : v2 ≤ 700) : v3 = 0 := by omega
theorem omx_467 {v0 v1 v2 v3 v4 v5 v6 v7 : Int} (h0 : 0 ≤ v0 ∧ v0 ≤ 700) (h1 : v0 + v1 ≤ v2 + 2000 * v3) (h2 : 0 ≤ v4 ∧ v4 + 5 * v5 ≤ 30 ∧ v6 = v4 + 1 ∧ 0 ≤ v1 ∧ v1 + 20 * v5 ≤ 120) (h3 : 1 ≤ v7) (h4 : v3 ≤ 0) (h5 : v2 ≤ 700) : v3 ≤ 5 * v7 ∧ 0 ≤ v3 := by omega
theorem omx_468 {v0 : Int} (h0 : 1 ≤ v0) (h1 : v0 ≤ 1) : v0 = 2 ∨ v0 = 1 := by omega
theorem omx_469 {v0 v1 v2 : Int} (h0 : v0 = 1) (h1 : v1 = 2) (h2 : v2 ≠ v1) (h3 : v2 ≠ v0) : v2 ≠ 1 := by omega
theorem omx_470 {v0 v1 : Int} (h0 : v0 ≤ 4) (h1 : v1 = - 1) : -2147483648 ≤ v1 - v0 := by omega
theorem omx_471 {v0 v1 v2 v3 v4 : Int} (h0 : v0 = v1) (h1 : v2 ≤ 5 * (v1 - v3)) (h2 : v0 ≤ v4) (h3 : 0 ≤ v2) : v3 ≤ v4 := by omega
theorem omx_472 {v0 v1 : Int} (h0 : v0 = 1) (h1 : 0 ≤ v1) : 1 ≤ v0 + v1 := by omega
theorem omx_473 {v0 v1 : Int} (h0 : v0 = 0) (h1 : 1 ≤ v1) : 1 ≤ v0 + v1 := by omega
theorem omx_474 {v0 v1 v2 v3 v4 v5 : Int} (h0 : 0 ≤ v0 ∧ v0 ≤ 8 ∧ 0 ≤ v1 ∧ v1 ≤ 8 ∧ 0 ≤ v2 ∧ v2 ≤ 8 ∧ 0 ≤ v3 ∧ v3 ≤ 700 ∧ 0 ≤ v4 ∧ v4 ≤ 700) (h1 : v5 = 0) : v0 + v5 ≤ 8 := by omega
theorem omx_475 {v0 v1 : Int} (h0 : 1 ≤ v0) (h1 : v0 ≤ 0) : v0 ≤ 5 * (1 - v1) := by omega
theorem omx_476 {v0 v1 : Int} (h0 : 1 ≤ v0) (h1 : v1 = 1) : 1 ≤ v1 + v0 := by omega
theorem omx_477 {v0 v1 v2 : Int} (h0 : 1 ≤ v0) (h1 : v0 ≤ 0) : v1 + v2 ≤ 8 := by omega
theorem omx_478 {v0 v1 : Int} (h0 : 1 ≤ v0) (h1 : v1 ≤ 5) : v1 ≤ 5 * v0 := by omega
theorem omx_479 {v0 v1 : Int} (h0 : 1 ≤ v0) (h1 : v1 = 0) : 1 ≤ v1 + v0 := by omega
theorem omx_480 {v0 v1 v2 v3 v4 v5 : Int} (h0 : 0 ≤ v0 ∧ v0 ≤ 8 ∧ 0 ≤ v1 ∧ v1 ≤ 8 ∧ 0 ≤ v2 ∧ v2 ≤ 8 ∧ 0 ≤ v3 ∧ v3 ≤ 700 ∧ 0 ≤ v4 ∧ v4 ≤ 700) (h1 : v5 = 0) : v1 + v5 ≤ 8 := by omega
theorem omx_481 {v0 v1 v2 v3 v4 : Int} (h0 : v0 ≤ v1) (h1 : v1 ≤ v2) (h2 : v2 ≤ v3) (h3 : v3 ≤ v4) : v0 ≤ v4 := by omega
theorem omx_482 {v0 v1 v2 v3 v4 v5 : Int} (h0 : v0 ≤ 5 * v1) (h1 : v1 ≤ 5 * (1 - v2)) (h2 : v1 ≤ 5 * v3) (h3 : v3 ≤ 5 * v4) (h4 : v4 ≤ 5 * v5) (h5 : 1 ≤ v2) : v0 ≤ 5 * v5 := by omega
theorem omx_483 {v0 v1 v2 : Int} (h0 : 1 ≤ v0 + v1) (h1 : v0 ≤ 0) : (v2 = v2 + 1) ∨ 1 ≤ v1 := by omega
theorem omx_484 {v0 v1 : Int} (h0 : 1 ≤ v0 + v1) (h1 : v0 ≤ 0) : v1 ≠ 0 := by omega
theorem omx_485 {v0 v1 v2 v3 v4 v5 : Int} (h0 : v0 ≤ 5 * v1) (h1 : v1 ≤ 5 * (1 - v2)) (h2 : v1 ≤ 5 * v3) (h3 : v3 ≤ 5 * v4) (h4 : v4 ≤ 5 * v5) (h5 : 0 ≤ v0) (h6 : 1 ≤ v2) : v0 ≤ 5 * v5 ∧ 0 ≤ v0 := by omega
theorem omx_486 {v0 v1 v2 v3 v4 v5 : Int} (h0 : v0 ≤ 5 * v1) (h1 : v1 ≤ 5 * v2) (h2 : v2 ≤ 5 * v3) (h3 : v3 ≤ 5 * v4) (h4 : v4 ≤ 5 * (1 - v5)) (h5 : 0 ≤ v0) (h6 : 1 ≤ v5) : v4 = 0 := by omega
theorem omx_487 {v0 v1 v2 v3 : Int} (h0 : v0 ≤ 5 * v1) (h1 : v1 ≤ 5 * (1 - v2)) (h2 : 0 ≤ v0) (h3 : 1 ≤ v3) (h4 : 1 ≤ v2) : v0 ≤ 5 * v3 ∧ 0 ≤ v0 := by omega
theorem omx_488 {v0 v1 v2 v3 v4 v5 v6 v7 v8 : Int} (h0 : v0 ≤ v1) (h1 : v1 ≤ v2) (h2 : v2 ≤ v3) (h3 : v4 = v5) (h4 : v3 ≤ v6) (h5 : v6 + v7 ≤ v5) (h6 : v4 ≤ v8) (h7 : 1 ≤ v7) : v0 ≤ v8 := by omega
theorem omx_489 {v0 v1 v2 : Int} (h0 : 1 ≤ v0) : (v1 = v2 + 1) ∨ 1 ≤ v0 := by omega
theorem omx_490 {v0 v1 v2 v3 v4 v5 : Int} (h0 : v0 ≤ 5 * v1) (h1 : v1 ≤ 5 * v2) (h2 : v2 ≤ 5 * v3) (h3 : v3 ≤ 5 * v4) (h4 : v4 ≤ 5 * v5) (h5 : v5 ≤ 0) (h6 : 0 ≤ v0) : v5 = 0 := by omega
theorem omx_491 {v0 v1 v2 v3 v4 v5 v6 : Int} (h0 : v0 ≤ 5 * v1) (h1 : v1 ≤ 5 * (1 - v2)) (h2 : v1 ≤ 5 * v3) (h3 : v3 ≤ 5 * v4) (h4 : v4 ≤ 5 * v5) (h5 : v5 ≤ 5 * v6) (h6 : 0 ≤ v0) (h7 : 1 ≤ v2) : v0 ≤ 5 * v6 ∧ 0 ≤ v0 := by omega
theorem omx_492 {v0 v1 v2 v3 v4 v5 v6 v7 v8 v9 v10 v11 v12 : Int} (h0 : v0 ≤ v1) (h1 : v1 ≤ v2) (h2 : v2 ≤ v3) (h3 : v4 = v5) (h4 : v3 ≤ v6) (h5 : v6 + v7 ≤ v5) (h6 : v8 = v9) (h7 : v4 ≤ v10) (h8 : v10 + 1 ≤ v9 + v11) (h9 : v8 ≤ v12) (h10 : 1 ≤ v7) (h11 : v11 ≤ 0) : v0 ≤ v12 := by omega
theorem omx_493 {v0 v1 v2 v3 v4 v5 v6 : Int} (h0 : v0 ≤ 5 * v1) (h1 : v1 ≤ 5 * (1 - v2)) (h2 : v1 ≤ 5 * v3) (h3 : v3 ≤ 5 * v4) (h4 : v4 ≤ 5 * v5) (h5 : v5 ≤ 5 * v6) (h6 : 1 ≤ v2) : v0 ≤ 5 * v6 := by omega
theorem omx_494 {v0 v1 v2 v3 : Int} (h0 : v0 ≤ 5 * v1) (h1 : v1 ≤ 5 * (1 - v2)) (h2 : 1 ≤ v3) (h3 : 0 ≤ v0) (h4 : 1 ≤ v2) : v0 ≤ 5 * v3 ∧ 0 ≤ v0 := by omega
theorem omx_495 {v0 v1 : Int} (h0 : 1 ≤ v0) (h1 : v0 ≤ 0) : 0 ≤ v1 ∧ v1 < 16 := by omega
theorem omx_496 {v0 v1 v2 : Int} (h0 : 1 ≤ v0) (h1 : v0 ≤ 0) : v1 = 8 + v2 := by omega
theorem omx_497 {v0 v1 v2 : Int} (h0 : 1 ≤ v0) (h1 : v0 ≤ 0) : v1 = v2 + 1 := by omega
theorem omx_498 {v0 v1 : Int} (h0 : 1 ≤ v0) (h1 : 0 ≤ v1) (h2 : v0 ≤ 0) : v1 ≤ 5 * v0 ∧ 0 ≤ v1 := by omega
theorem omx_499 {v0 v1 v2 v3 v4 v5 : Int} (h0 : 1 ≤ v0) (h1 : v0 ≤ 0) : 0 ≤ v1 ∧ v1 ≤ 8 ∧ 0 ≤ v2 ∧ v2 ≤ 8 ∧ 0 ≤ v3 ∧ v3 ≤ 8 ∧ 0 ≤ v4 ∧ v4 ≤ 700 ∧ 0 ≤ v5 ∧ v5 ≤ 700 := by omega
theorem omx_500 {v0 v1 : Int} (h0 : 1 ≤ v0) (h1 : v0 ≤ 0) : v1 ≠ 0 := by omega
theorem omx_501 {v0 v1 : Int} (h0 : 1 ≤ v0) (h1 : v0 ≤ 0) : 8 ≤ v1 := by omega
theorem omx_502 {v0 v1 : Int} (h0 : v0 ≤ 5 * v1) (h1 : 0 ≤ v0) : v0 ≤ 5 * v1 ∧ 0 ≤ v0 := by omega
theorem omx_503 {v0 v1 v2 : Int} (h0 : 1 ≤ v0) : 1 ≤ v0 ∨ 1 ≤ v1 ∨ v2 = 2 := by omega
theorem omx_504 {v0 v1 v2 v3 : Int} (h0 : v0 ≤ v1) (h1 : v1 + 1 ≤ v2 + v3) (h2 : v3 ≤ 0) : v0 ≤ v2 := by omega
theorem omx_505 {v0 v1 v2 : Int} (h0 : 1 ≤ v0) (h1 : v0 ≤ 5 * v1) (h2 : 16 ≤ v2) (h3 : v1 ≤ 0) : 0 ≤ v2 ∧ v2 < 16 := by omega
theorem omx_506 {v0 v1 v2 : Int} (h0 : v0 = 0) (h1 : 1 ≤ v1) (h2 : v1 ≤ 5 * v2) : v0 ≤ 5 * v2 := by omega
theorem omx_507 {v0 v1 v2 v3 v4 v5 v6 : Int} (h0 : 1 ≤ v0) (h1 : v0 ≤ 5 * v1) (h2 : v1 ≤ 0) : 0 ≤ v2 ∧ v2 ≤ 8 ∧ 0 ≤ v3 ∧ v3 ≤ 8 ∧ 0 ≤ v4 ∧ v4 ≤ 8 ∧ 0 ≤ v5 ∧ v5 ≤ 700 ∧ 0 ≤ v6 ∧ v6 ≤ 700 := by omega
theorem omx_508 {v0 v1 v2 v3 : Int} (h0 : 1 ≤ v0) (h1 : v0 ≤ 5 * v1) : 1 ≤ v1 ∨ 1 ≤ v2 ∨ v3 = 2 := by omega
theorem omx_509 {v0 : Int} (h0 : 16 ≤ v0) : 8 ≤ v0 := by omega
theorem omx_510 {v0 v1 v2 : Int} (h0 : 2 ≤ v0) (h1 : v0 ≤ 2) : 1 ≤ v1 ∨ 1 ≤ v2 ∨ v0 = 2 := by omega
theorem omx_511 {v0 v1 v2 v3 v4 v5 : Int} (h0 : v0 = v1) (h1 : v2 ≤ 5 * (v1 - v3)) (h2 : v0 ≤ v4) (h3 : v4 ≤ v5) (h4 : 0 ≤ v2) : v3 ≤ v5 := by omega
theorem omx_512 {v0 v1 v2 v3 v4 : Int} (h0 : 0 ≤ v0 ∧ v0 ≤ 8 ∧ 0 ≤ v1 ∧ v1 ≤ 8 ∧ 0 ≤ v2 ∧ v2 ≤ 8 ∧ 0 ≤ v3 ∧ v3 ≤ 700 ∧ 0 ≤ v4 ∧ v4 ≤ 700) (h1 : v3 = 0) : 0 ≤ v3 ∧ v3 ≤ 700 := by omega
theorem omx_513 {v0 v1 v2 : Int} (h0 : v0 = 0) (h1 : v1 = 0) (h2 : 0 ≤ v2) : v1 + 0 ≤ v2 + 2000 * v0 := by omega
theorem omx_514  : 0 ≤ 0 ∧ 0 + 5 * (6 : Int) ≤ 30 ∧ 1 = 0 + 1 ∧ 0 ≤ 0 ∧ 0 + 20 * (6 : Int) ≤ 120 := by omega
theorem omx_515 {v0 v1 v2 v3 v4 : Int} (h0 : 0 ≤ v0 ∧ v0 ≤ 8 ∧ 0 ≤ v1 ∧ v1 ≤ 8 ∧ 0 ≤ v2 ∧ v2 ≤ 8 ∧ 0 ≤ v3 ∧ v3 ≤ 700 ∧ 0 ≤ v4 ∧ v4 ≤ 700) (h1 : v3 = 0) : v3 = 0 := by omega
theorem omx_516 {v0 v1 v2 v3 v4 : Int} (h0 : 0 ≤ v0 ∧ v0 ≤ 8 ∧ 0 ≤ v1 ∧ v1 ≤ 8 ∧ 0 ≤ v2 ∧ v2 ≤ 8 ∧ 0 ≤ v3 ∧ v3 ≤ 700 ∧ 0 ≤ v4 ∧ v4 ≤ 700) (h1 : v4 = 0) : 0 ≤ v4 ∧ v4 ≤ 700 := by omega
theorem omx_517 {v0 v1 v2 v3 v4 : Int} (h0 : 0 ≤ v0 ∧ v0 ≤ 8 ∧ 0 ≤ v1 ∧ v1 ≤ 8 ∧ 0 ≤ v2 ∧ v2 ≤ 8 ∧ 0 ≤ v3 ∧ v3 ≤ 700 ∧ 0 ≤ v4 ∧ v4 ≤ 700) (h1 : v4 = 0) : v4 = 0 := by omega
theorem omx_518 {v0 v1 v2 v3 : Int} (h0 : v0 ≤ v1) (h1 : v1 + 1 ≤ v2 + v3) : v0 + 1 ≤ v2 + v3 := by omega
theorem omx_519 {v0 v1 v2 : Int} (h0 : v0 ≤ 5 * v1) (h1 : v0 = 0) (h2 : v1 ≤ 5 * v2) : v1 ≤ 5 * v2 ∧ 0 ≤ v1 := by omega
theorem omx_520 {v0 : Int} (h0 : v0 = 0) (h1 : 1 ≤ v0) : v0 = 77 := by omega
theorem omx_521 {v0 v1 : Int} (h0 : v0 = 0) (h1 : v0 ≤ 5 * v1) : v0 ≤ 5 * v1 ∧ 0 ≤ v0 := by omega
theorem omx_522 {v0 v1 v2 : Int} (h0 : v0 = 0) (h1 : 0 ≤ v1 ∧ v1 ≤ v2) (h2 : 0 ≤ v2) : ((v1 < 0 ∨ v2 < v1) ∧ v0 = v2) ∨ (0 ≤ v1 ∧ v1 ≤ v2 ∧ v0 = 0) := by omega
theorem omx_523 {v0 v1 : Int} (h0 : 0 ≤ v0 ∧ v0 ≤ v1) : 0 ≤ v0 := by omega
theorem omx_524 {v0 v1 : Int} (h0 : 0 ≤ v0 ∧ v0 ≤ v1) : v0 ≤ v1 := by omega
theorem omx_525 {v0 v1 : Int} (h0 : v0 ≤ v1) (h1 : v0 = v1) : v0 = v1 := by omega
theorem omx_526 {v0 v1 : Int} (h0 : v0 ≤ 0) (h1 : 0 ≤ v1) : v0 ≤ v1 := by omega
theorem omx_527 {v0 v1 v2 v3 v4 v5 : Int} (h0 : (v0 < 1 ∨ v1 = 0) ∧ (v0 < 2 ∨ v2 = 0) ∧ (v0 < 3 ∨ v3 = 0) ∧ (v0 < 5 ∨ v4 = 0) ∧ (v0 < 6 ∨ v5 = 0)) (h1 : 6 ≤ v0) : 0 ≤ v1 ∧ v1 ≤ 8 ∧ 0 ≤ v2 ∧ v2 ≤ 8 ∧ 0 ≤ v3 ∧ v3 ≤ 8 ∧ 0 ≤ v4 ∧ v4 ≤ 700 ∧ 0 ≤ v5 ∧ v5 ≤ 700 := by omega
theorem omx_528 {v0 v1 v2 v3 v4 v5 : Int} (h0 : (v0 < 1 ∨ v1 = 0) ∧ (v0 < 2 ∨ v2 = 0) ∧ (v0 < 3 ∨ v3 = 0) ∧ (v0 < 5 ∨ v4 = 0) ∧ (v0 < 6 ∨ v5 = 0)) (h1 : 6 ≤ v0) : v4 = 0 := by omega
theorem omx_529 {v0 v1 v2 v3 v4 v5 : Int} (h0 : (v0 < 1 ∨ v1 = 0) ∧ (v0 < 2 ∨ v2 = 0) ∧ (v0 < 3 ∨ v3 = 0) ∧ (v0 < 5 ∨ v4 = 0) ∧ (v0 < 6 ∨ v5 = 0)) (h1 : 6 ≤ v0) : v5 = 0 := by omega
theorem omx_530 {v0 v1 v2 v3 v4 v5 : Int} (h0 : (v0 < 1 ∨ v1 = 0) ∧ (v0 < 2 ∨ v2 = 0) ∧ (v0 < 3 ∨ v3 = 0) ∧ (v0 < 5 ∨ v4 = 0) ∧ (v0 < 6 ∨ v5 = 0)) (h1 : 6 ≤ v0) : v2 = 0 := by omega
theorem omx_531 {v0 v1 v2 v3 v4 v5 : Int} (h0 : (v0 < 1 ∨ v1 = 0) ∧ (v0 < 2 ∨ v2 = 0) ∧ (v0 < 3 ∨ v3 = 0) ∧ (v0 < 5 ∨ v4 = 0) ∧ (v0 < 6 ∨ v5 = 0)) (h1 : 6 ≤ v0) : v1 = 0 := by omega
theorem omx_532 {v0 v1 v2 v3 v4 v5 : Int} (h0 : (v0 < 1 ∨ v1 = 0) ∧ (v0 < 2 ∨ v2 = 0) ∧ (v0 < 3 ∨ v3 = 0) ∧ (v0 < 5 ∨ v4 = 0) ∧ (v0 < 6 ∨ v5 = 0)) (h1 : 6 ≤ v0) : v3 = 0 := by omega
theorem omx_533 {v0 v1 : Int} (h0 : (v0 < 4 ∨ v1 = 30)) (h1 : 6 ≤ v0) : v1 = 30 := by omega
theorem omx_534 {v0 : Int} (h0 : 6 ≤ v0) : 6 ≤ v0 := by omega
theorem omx_535 {v0 : Int} (h0 : 6 ≤ v0) : 0 ≤ v0 := by omega
theorem omx_536 {v0 v1 v2 : Int} (h0 : 3 ≤ v0) (h1 : v1 = 6) (h2 : v2 = v1 + v0) : 6 ≤ v2 := by omega
theorem omx_537 {v0 v1 : Int} (h0 : 3 ≤ v0) (h1 : v1 = 6) : -2147483648 ≤ v1 + v0 := by omega
theorem omx_538 {v0 v1 : Int} (h0 : v0 ≤ 3) (h1 : v1 = 6) : v1 + v0 ≤ 2147483647 := by omega
theorem omx_539 {v0 v1 : Int} (h0 : v0 ≤ - 1) (h1 : 0 ≤ v1) : ((v0 < 0 ∨ v1 < v0) ∧ v1 = v1) ∨ (0 ≤ v0 ∧ v0 ≤ v1 ∧ v1 = 0) := by omega
theorem omx_540 {v0 v1 : Int} (h0 : v0 ≤ - 1) : v0 < 0 ∨ v1 < v0 := by omega
theorem omx_541 {v0 v1 : Int} (h0 : v0 = v1) (h1 : v1 = 1) : v0 = 1 := by omega
theorem omx_542 {v0 v1 v2 v3 v4 v5 : Int} (h0 : v0 = 0) : (v0 < 1 ∨ v1 = 0) ∧ (v0 < 2 ∨ v2 = 0) ∧ (v0 < 3 ∨ v3 = 0) ∧ (v0 < 5 ∨ v4 = 0) ∧ (v0 < 6 ∨ v5 = 0) := by omega
theorem omx_543 {v0 v1 : Int} (h0 : 0 ≤ v0) (h1 : v0 ≤ v1) : 0 ≤ v0 ∧ v0 ≤ v1 := by omega
theorem omx_544 {v0 v1 : Int} (h0 : v0 = 0) : (v0 < 4 ∨ v1 = 30) := by omega
theorem omx_545 {v0 v1 : Int} (h0 : 1 ≤ v0) (h1 : v1 < v0) : ((v0 < 0 ∨ v1 < v0) ∧ v1 = v1) ∨ (0 ≤ v0 ∧ v0 ≤ v1 ∧ v1 = 0) := by omega
theorem omx_546 {v0 v1 : Int} (h0 : v0 < v1) : v1 < 0 ∨ v0 < v1 := by omega
theorem omx_547 {v0 v1 : Int} (h0 : v0 = v1) (h1 : 0 ≤ v1) (h2 : v0 ≤ 0) : v1 = 0 := by omega
theorem omx_548 {v0 v1 v2 : Int} (h0 : v0 = v1) (h1 : v0 = v2) : v2 = v1 := by omega
theorem omx_549 {v0 v1 : Int} (h0 : v0 = 0) (h1 : 0 ≤ v1) : (v0 ≠ 0 ∧ v0 = v1) ∨ (v0 = 0 ∧ v0 = 0) := by omega
theorem omx_550 {v0 v1 v2 : Int} (h0 : 0 ≤ v0) (h1 : v1 = 0) (h2 : v2 ≠ v1) : (v2 ≠ 0 ∧ v0 = v0) ∨ (v2 = 0 ∧ v0 = 0) := by omega
theorem omx_551 {v0 v1 v2 v3 v4 : Int} (h0 : 1 ≤ v0 + v1) (h1 : 0 ≤ v2 ∧ v2 + 5 * v0 ≤ 35 ∧ v3 = v2 + 1 ∧ 0 ≤ v4 ∧ v4 + 20 * v0 ≤ 132) (h2 : v1 ≤ 0) : 0 ≤ v2 ∧ v2 ≤ 31 := by omega
theorem omx_552 {v0 v1 v2 v3 v4 v5 v6 : Int} (h0 : v0 ≤ 5 * v1) (h1 : 1 ≤ v2 + v0) (h2 : 0 ≤ v3 ∧ v3 + 5 * v2 ≤ 34 ∧ v4 = v3 + 1 ∧ 0 ≤ v5 ∧ v5 + 20 * v2 ≤ 131) (h3 : v1 ≤ 5 * (1 - v6)) (h4 : 1 ≤ v6) : 2 ≤ (v4 + 1) ∧ (v4 + 1) ≤ 32 := by omega
theorem omx_553 {v0 v1 v2 v3 v4 v5 v6 : Int} (h0 : v0 ≤ 5 * v1) (h1 : 1 ≤ v2 + v0) (h2 : 0 ≤ v3 ∧ v3 + 5 * v2 ≤ 33 ∧ v4 = v3 + 1 ∧ 0 ≤ v5 ∧ v5 + 20 * v2 ≤ 130) (h3 : v1 ≤ 5 * (1 - v6)) (h4 : 1 ≤ v6) : 2 ≤ (v4 + 1) ∧ (v4 + 1) ≤ 32 := by omega
theorem omx_554 {v0 v1 v2 v3 v4 v5 v6 : Int} (h0 : v0 = 0 ∨ v1 = 0) (h1 : 0 ≤ v2) (h2 : 1 ≤ v3 + v1) (h3 : 0 ≤ v4 ∧ v4 + 5 * v3 ≤ 32 ∧ v5 = v4 + 1 ∧ 0 ≤ v6 ∧ v6 + 20 * v3 ≤ 122) (h4 : v2 < v0) : 1 ≤ v5 ∧ v5 ≤ 32 := by omega
theorem omx_555 {v0 v1 v2 v3 v4 v5 v6 : Int} (h0 : 1 ≤ v0 + v1) (h1 : 0 ≤ v2 ∧ v2 + 5 * v0 ≤ 32 ∧ v3 = v2 + 1 ∧ 0 ≤ v4 ∧ v4 + 20 * v0 ≤ 122) (h2 : v1 ≤ 5 * v5) (h3 : v5 ≤ 5 * (1 - v6)) (h4 : 1 ≤ v6) : 2 ≤ (v3 + 1) ∧ (v3 + 1) ≤ 32 := by omega
theorem omx_556 {v0 v1 v2 v3 v4 v5 v6 : Int} (h0 : v0 ≤ 5 * v1) (h1 : 1 ≤ v2 + v0) (h2 : 0 ≤ v3 ∧ v3 + 5 * v2 ≤ 31 ∧ v4 = v3 + 1 ∧ 0 ≤ v5 ∧ v5 + 20 * v2 ≤ 121) (h3 : v1 ≤ 5 * (1 - v6)) (h4 : 1 ≤ v6) : 2 ≤ (v4 + 1) ∧ (v4 + 1) ≤ 32 := by omega
theorem omx_557 {v0 v1 v2 v3 v4 v5 : Int} (h0 : 1 ≤ v0 + v1) (h1 : 0 ≤ v2 ∧ v2 + 5 * v0 ≤ 30 ∧ v3 = v2 + 1 ∧ 0 ≤ v4 ∧ v4 + 20 * v0 ≤ 120) (h2 : v1 ≤ 5 * (1 - v5)) (h3 : 1 ≤ v5) : 2 ≤ (v3 + 1) ∧ (v3 + 1) ≤ 32 := by omega
