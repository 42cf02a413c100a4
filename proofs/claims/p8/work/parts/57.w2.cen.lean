/-! items of the class, signs of the reference -/
def opn (x y : Int) : Prop := (x = -6 ∧ y = -20) ∨ (x = -7 ∧ y = -21) ∨ (x = -8 ∧ y = -22) ∨ (x = -9 ∧ y = -23) ∨ (x = -4 ∧ y = -24) ∨ (x = -5 ∧ y = -25) ∨ (x = -2 ∧ y = -26) ∨ (x = -1 ∧ y = -27)
/-- an item of the class, a sign of the reference; vm: the number of a value there, here -/
def cen (J : Nat) (vm : Nat → Nat) (x y : Int32) : Prop := (0 ≤ y.toInt ∧ y.toInt ≤ 9999 ∧ x = y) ∨ (∃ j : Nat, j < J ∧ j ≤ 4 ∧ vm j ≤ 6 ∧ y.toInt = -1 - (j : Int) ∧ x.toInt = 10000 + (vm j : Int)) ∨ (x.toInt = -3 ∧ y.toInt = -28) ∨ opn x.toInt y.toInt
/-- the number of a value of sits, in the class -/
def vmS (j : Nat) : Nat := if j = 0 then 4 else if j = 1 then 5 else if j = 2 then 1 else if j = 3 then 6 else 3
