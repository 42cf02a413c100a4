/-! numbers between bounds -/
def iv (x : Int32) (a b : Int) : Prop := a ≤ x.toInt ∧ x.toInt ≤ b
def av (f : Nat → Int32) (n : Nat) (a b : Int) : Prop := ∀ k : Nat, k < n → iv (f k) a b
theorem iv_w {x : Int32} {a b c d : Int} (h : iv x a b) (h1 : c ≤ a) (h2 : b ≤ d) : iv x c d := ⟨Int.le_trans h1 h.1, Int.le_trans h.2 h2⟩
theorem iv_rng (x : Int32) : -2147483648 ≤ x.toInt ∧ x.toInt ≤ 2147483647 := by
  have h1 := Int32.le_toInt x
  have h2 := Int32.toInt_lt x
  constructor
  · have : (-2 ^ 31 : Int) = -2147483648 := by decide
    omega
  · have : (2 ^ 31 : Int) = 2147483648 := by decide
    omega
theorem iv_any (x : Int32) : iv x (-2147483648) 2147483647 := iv_rng x
theorem iv_bm {z : Int} (h1 : -2147483648 ≤ z) (h2 : z ≤ 2147483647) : z.bmod (2 ^ 32) = z := by
  apply Int.bmod_eq_of_le <;> omega
theorem iv_tadd {x y : Int32} (h1 : -2147483648 ≤ x.toInt + y.toInt) (h2 : x.toInt + y.toInt ≤ 2147483647) : (x + y).toInt = x.toInt + y.toInt := by rw [Int32.toInt_add]; exact iv_bm h1 h2
theorem iv_tsub {x y : Int32} (h1 : -2147483648 ≤ x.toInt - y.toInt) (h2 : x.toInt - y.toInt ≤ 2147483647) : (x - y).toInt = x.toInt - y.toInt := by rw [Int32.toInt_sub]; exact iv_bm h1 h2
theorem iv_tmul {x y : Int32} (h1 : -2147483648 ≤ x.toInt * y.toInt) (h2 : x.toInt * y.toInt ≤ 2147483647) : (x * y).toInt = x.toInt * y.toInt := by rw [Int32.toInt_mul]; exact iv_bm h1 h2
theorem iv_add {x y z : Int32} {a b c d e f : Int} (q : z = x + y) (h : iv x a b) (k : iv y c d) (h1 : -2147483648 ≤ e) (h2 : f ≤ 2147483647) (h3 : e ≤ a + c) (h4 : b + d ≤ f) : iv z e f := by
  obtain ⟨h5, h6⟩ := h; obtain ⟨k5, k6⟩ := k
  subst q; unfold iv; rw [iv_tadd (by omega) (by omega)]; omega
theorem iv_sub {x y z : Int32} {a b c d e f : Int} (q : z = x - y) (h : iv x a b) (k : iv y c d) (h1 : -2147483648 ≤ e) (h2 : f ≤ 2147483647) (h3 : e ≤ a - d) (h4 : b - c ≤ f) : iv z e f := by
  obtain ⟨h5, h6⟩ := h; obtain ⟨k5, k6⟩ := k
  subst q; unfold iv; rw [iv_tsub (by omega) (by omega)]; omega
theorem iv_mulN {x y z : Int32} {b d f : Int} (q : z = x * y) (h : iv x 0 b) (k : iv y 0 d) (h2 : f ≤ 2147483647) (h4 : b * d ≤ f) : iv z 0 f := by
  obtain ⟨h5, h6⟩ := h; obtain ⟨k5, k6⟩ := k
  have p1 : 0 ≤ x.toInt * y.toInt := Int.mul_nonneg h5 k5
  have p2 : x.toInt * y.toInt ≤ b * d := Int.mul_le_mul h6 k6 k5 (Int.le_trans h5 h6)
  subst q; unfold iv; rw [iv_tmul (by omega) (by omega)]; omega
theorem iv_and {x y z : Int32} {c d : Int} (q : z = x &&& y) (k : iv y c d) (hc : 0 ≤ c) : iv z 0 d := by
  obtain ⟨k5, k6⟩ := k
  have hy : y.toInt = (y.toBitVec.toNat : Int) := by
    have := BitVec.toInt_eq_toNat_cond y.toBitVec
    have h0 : 0 ≤ y.toBitVec.toInt := Int.le_trans hc k5
    have h1 := y.toBitVec.isLt
    show y.toBitVec.toInt = _
    rw [this] at h0 ⊢
    split at h0
    · rename_i h; rw [if_pos h]
    · omega
  have hlt : y.toBitVec.toNat < 2 ^ 31 := by
    have := iv_rng y
    rw [hy] at this
    omega
  have hle : z.toBitVec.toNat ≤ y.toBitVec.toNat := by
    rw [q, Int32.toBitVec_and, BitVec.toNat_and]; exact Nat.and_le_right
  have hz : z.toInt = (z.toBitVec.toNat : Int) := by
    show z.toBitVec.toInt = _
    rw [BitVec.toInt_eq_toNat_cond, if_pos (by omega)]
  unfold iv
  rw [hz]
  rw [hy] at k6
  omega
theorem iv_lit (x : Int32) {a b : Int} (h : (decide (a ≤ x.toInt) && decide (x.toInt ≤ b)) = true) : iv x a b := by
  rw [Bool.and_eq_true, decide_eq_true_eq, decide_eq_true_eq] at h; exact h
theorem iv_in {x : Int32} {n : Nat} {a b : Int} (h : iv x a b) (h1 : 0 ≤ a) (h2 : b < (n : Int)) : vp_in x n := vp_in_iff.mpr ⟨Int.le_trans h1 h.1, Int.lt_of_le_of_lt h.2 h2⟩
theorem iv_cl {x : Int32} {a b : Int} (h : iv x a b) (h1 : 0 ≤ a) : ((x.toNatClampNeg : Nat) : Int) = x.toInt := by
  show ((x.toInt.toNat : Nat) : Int) = _
  have := h.1
  omega
theorem lt_i {x y : Int32} (h : x < y) : x.toInt < y.toInt := Int32.lt_iff_toInt_lt.mp h
theorem le_i {x y : Int32} (h : x ≤ y) : x.toInt ≤ y.toInt := Int32.le_iff_toInt_le.mp h
theorem nlt_i {x y : Int32} (h : ¬ x < y) : y.toInt ≤ x.toInt := by
  have := mt Int32.lt_iff_toInt_lt.mpr h; omega
theorem nle_i {x y : Int32} (h : ¬ x ≤ y) : y.toInt < x.toInt := by
  have := mt Int32.le_iff_toInt_le.mpr h; omega
theorem ne_i {x y : Int32} (h : ¬ x = y) : x.toInt ≠ y.toInt := fun q => h (Int32.toInt_inj.mp q)
/-- a comparison narrows both -/
theorem iv_ltL {x y : Int32} {a b c d e : Int} (q : x < y) (h : iv x a b) (k : iv y c d) (he : d - 1 ≤ e) : iv x a e := ⟨h.1, by have := lt_i q; have := k.2; omega⟩
theorem iv_ltR {x y : Int32} {a b c d e : Int} (q : x < y) (h : iv x a b) (k : iv y c d) (he : e ≤ a + 1) : iv y e d := ⟨by have := lt_i q; have := h.1; omega, k.2⟩
theorem iv_leL {x y : Int32} {a b c d e : Int} (q : x ≤ y) (h : iv x a b) (k : iv y c d) (he : d ≤ e) : iv x a e := ⟨h.1, by have := le_i q; have := k.2; omega⟩
theorem iv_leR {x y : Int32} {a b c d e : Int} (q : x ≤ y) (h : iv x a b) (k : iv y c d) (he : e ≤ a) : iv y e d := ⟨by have := le_i q; have := h.1; omega, k.2⟩
theorem iv_neL {x y : Int32} {a b e : Int} (q : ¬ x = y) (h : iv x a b) (hy : y.toInt = a) (he : e ≤ a + 1) : iv x e b := ⟨by have := ne_i q; have := h.1; omega, h.2⟩
theorem iv_neH {x y : Int32} {a b e : Int} (q : ¬ x = y) (h : iv x a b) (hy : y.toInt = b) (he : b - 1 ≤ e) : iv x a e := ⟨h.1, by have := ne_i q; have := h.2; omega⟩
theorem iv_nlt {x y : Int32} (h : ¬ x < y) : y ≤ x := Int32.not_lt.mp h
theorem iv_nle {x y : Int32} (h : ¬ x ≤ y) : y < x := Int32.not_le.mp h
theorem iv_max {x y z : Int32} {a b c d e f : Int} (q : z = if x < y then y else x) (h : iv x a b) (k : iv y c d) (h1 : e ≤ a ∨ e ≤ c) (h2 : b ≤ f) (h3 : d ≤ f) : iv z e f := by
  obtain ⟨h5, h6⟩ := h; obtain ⟨k5, k6⟩ := k
  subst q
  by_cases hc : x < y
  · rw [if_pos hc]; have := lt_i hc; constructor <;> omega
  · rw [if_neg hc]; have := nlt_i hc; constructor <;> omega
theorem iv_min {x y z : Int32} {a b c d e f : Int} (q : z = if y < x then y else x) (h : iv x a b) (k : iv y c d) (h1 : e ≤ a) (h2 : e ≤ c) (h3 : b ≤ f ∨ d ≤ f) : iv z e f := by
  obtain ⟨h5, h6⟩ := h; obtain ⟨k5, k6⟩ := k
  subst q
  by_cases hc : y < x
  · rw [if_pos hc]; have := lt_i hc; constructor <;> omega
  · rw [if_neg hc]; have := nlt_i hc; constructor <;> omega
/-- the remainder by a positive number -/
theorem iv_rem {x y z : Int32} {b c d f : Int} (q : z = x - x / y * y) (h : iv x 0 b) (k : iv y c d) (hc : 1 ≤ c) (hf : d - 1 ≤ f) : iv z 0 f := by
  obtain ⟨h5, h6⟩ := h; obtain ⟨k5, k6⟩ := k
  obtain ⟨n, hn, rfl⟩ := nI_of (x := x) (by intro w; have := lt_i w; have e : (0 : Int32).toInt = 0 := rfl; omega)
  obtain ⟨m, hm, rfl⟩ := nI_of (x := y) (by intro w; have := lt_i w; have e : (0 : Int32).toInt = 0 := rfl; omega)
  rw [nI_toInt hm] at k5 k6
  rw [q, pk_rem hn (by omega) hm]
  have hlt : n % m < m := Nat.mod_lt _ (by omega)
  unfold iv
  rw [nI_toInt (by omega)]
  omega
theorem iv_div {x y z : Int32} {b c d f : Int} (q : z = x / y) (h : iv x 0 b) (k : iv y c d) (hc : 1 ≤ c) (hf : b / c ≤ f) : iv z 0 f := by
  obtain ⟨h5, h6⟩ := h; obtain ⟨k5, k6⟩ := k
  obtain ⟨n, hn, rfl⟩ := nI_of (x := x) (by intro w; have := lt_i w; have e : (0 : Int32).toInt = 0 := rfl; omega)
  obtain ⟨m, hm, rfl⟩ := nI_of (x := y) (by intro w; have := lt_i w; have e : (0 : Int32).toInt = 0 := rfl; omega)
  rw [nI_toInt hm] at k5 k6
  rw [nI_toInt hn] at h6
  rw [q, pk_div hn (by omega) hm]
  have hlt : n / m ≤ n := Nat.div_le_self _ _
  unfold iv
  rw [nI_toInt (by omega)]
  refine ⟨Int.natCast_nonneg _, Int.le_trans ?_ hf⟩
  have e1 : ((n / m : Nat) : Int) = (n : Int) / (m : Int) := by exact Int.natCast_ediv n m
  rw [e1]
  have hb : (n : Int) / (m : Int) ≤ (n : Int) / c := by
    apply Int.le_ediv_of_mul_le (by omega)
    have s1 : (n : Int) / (m : Int) * c ≤ (n : Int) / (m : Int) * (m : Int) := Int.mul_le_mul_of_nonneg_left k5 (Int.ediv_nonneg (by omega) (by omega))
    have s2 : (n : Int) / (m : Int) * (m : Int) ≤ n := Int.ediv_mul_le _ (by omega)
    omega
  exact Int.le_trans hb (Int.ediv_le_ediv (by omega) h6)
theorem ne0_iv {y : Int32} {c d : Int} (k : iv y c d) (hc : 1 ≤ c) : ¬ y = 0 := fun h => by
  have := k.1; rw [h] at this; have e : (0 : Int32).toInt = 0 := rfl; omega
/-- arrays -/
theorem av_get {f : Nat → Int32} {n : Nat} {a b : Int} (h : av f n a b) {i : Int32} (hi : vp_in i n) : iv (f i.toNatClampNeg) a b := h _ (Nat.not_le.mp fun q => hi (Or.inr q))
theorem av_upd {f : Nat → Int32} {n : Nat} {a b : Int} (h : av f n a b) (k : Nat) {x : Int32} (hx : iv x a b) : av (upd f k x) n a b := fun j hj => by
  by_cases e : j = k
  · rw [e, pk_us]; exact hx
  · rw [pk_un e]; exact h j hj
theorem av_w {f : Nat → Int32} {n m : Nat} {a b c d : Int} (h : av f n a b) (hm : m ≤ n) (h1 : c ≤ a) (h2 : b ≤ d) : av f m c d := fun k hk => iv_w (h k (Nat.lt_of_lt_of_le hk hm)) h1 h2
/-- a loop's measure falls -/
theorem ms_up {i j : Int32} {B : Int} {n : Nat} (q : j = i + 1) {a b : Int} (h : iv i a b) (hb : b < B) (hB : B ≤ 2147483647) (hn : (B - i.toInt).toNat < n + 1) : (B - j.toInt).toNat < n := by
  obtain ⟨h5, h6⟩ := h
  have := iv_rng i
  have e : (1 : Int32).toInt = 1 := rfl
  rw [q, iv_tadd (by omega) (by omega)]
  omega
theorem ms_dn {i j : Int32} {B : Int} {n : Nat} {t : Int32} (q : j = i + t) {a b : Int} (h : iv i a b) (hb : B ≤ a) (hB : -2147480000 ≤ B) (ht : t.toInt ≤ -1) (ht2 : -1000 ≤ t.toInt) (hn : (i.toInt - B + 1000).toNat < n + 1) : (j.toInt - B + 1000).toNat < n := by
  obtain ⟨h5, h6⟩ := h
  have := iv_rng i
  rw [q, iv_tadd (by omega) (by omega)]
  omega
theorem nn_iv {x : Int32} {a b : Int} (h : iv x a b) (h1 : 0 ≤ a) : ¬ x < 0 := fun q => by
  have := lt_i q; have := h.1; have e : (0 : Int32).toInt = 0 := rfl; omega
theorem cp_iv {x y : Int32} {a b c d : Int} {n : Nat} (h : iv x a b) (k : iv y c d) (h1 : 0 ≤ a) (h2 : 0 ≤ c) (h3 : b + d ≤ (n : Int)) : x.toNatClampNeg + y.toNatClampNeg ≤ n := by
  have e1 := iv_cl h h1
  have e2 := iv_cl k h2
  have := h.2; have := k.2
  omega
theorem av_cpy {f g : Nat → Int32} {n n1 sp dp z : Nat} {a b : Int} (h : av f n1 a b) (k : av g n a b) (hz : sp + z ≤ n1) : av (va_cpy f g sp dp z) n a b := fun j hj => by
  by_cases e : dp ≤ j ∧ j < dp + z
  · rw [pk_cpy_in e.1 e.2]; exact h _ (by omega)
  · rw [pk_cpy_out (by omega)]; exact k j hj
theorem fit01 {v : Int32} (hz : iv v 0 1) : fits .boolean (.int v) = true := by
  have h01 : v = 0 ∨ v = 1 := by
    have h := hz
    unfold iv at h
    rcases (show v.toInt = 0 ∨ v.toInt = 1 by omega) with q | q
    · exact Or.inl (Int32.toInt_inj.mp q)
    · exact Or.inr (Int32.toInt_inj.mp q)
  rcases h01 with rfl | rfl <;> decide
theorem iv_shl1 {y z : Int32} {c d e f : Int} (q : z = (1 : Int32) <<< (y &&& 31)) (k : iv y c d) (hc : 0 ≤ c) (hd : d ≤ 30) (he : e ≤ (2 : Int) ^ c.toNat) (hf : (2 : Int) ^ d.toNat ≤ f) : iv z e f := by
  obtain ⟨k5, k6⟩ := k
  obtain ⟨n, hn, rfl⟩ := nI_of (x := y) (by intro w; have := lt_i w; have e : (0 : Int32).toInt = 0 := rfl; omega)
  rw [nI_toInt hn] at k5 k6
  have h31 : n < 31 := by omega
  have tab : ∀ n : Nat, n < 31 → ((1 : Int32) <<< (nI n &&& 31)).toInt = (2 : Int) ^ n := by decide +kernel
  unfold iv
  rw [q, tab n h31]
  have m1 : (2 : Int) ^ c.toNat ≤ 2 ^ n := by
    have := Nat.pow_le_pow_right (n := 2) (by decide) (show c.toNat ≤ n by omega)
    exact_mod_cast this
  have m2 : (2 : Int) ^ n ≤ 2 ^ d.toNat := by
    have := Nat.pow_le_pow_right (n := 2) (by decide) (show n ≤ d.toNat by omega)
    exact_mod_cast this
  exact ⟨Int.le_trans he m1, Int.le_trans m2 hf⟩
theorem iv_or {x y z : Int32} {b d : Int} (k : Nat) (q : z = x ||| y) (h : iv x 0 b) (h' : iv y 0 d) (hk : k ≤ 30) (hb : b < 2 ^ k) (hd : d < 2 ^ k) {f : Int} (hf : (2 : Int) ^ k - 1 ≤ f := by decide) : iv z 0 f := by
  obtain ⟨h5, h6⟩ := h; obtain ⟨k5, k6⟩ := h'
  obtain ⟨n, hn, rfl⟩ := nI_of (x := x) (by intro w; have := lt_i w; have e : (0 : Int32).toInt = 0 := rfl; omega)
  obtain ⟨m, hm, rfl⟩ := nI_of (x := y) (by intro w; have := lt_i w; have e : (0 : Int32).toInt = 0 := rfl; omega)
  rw [nI_toInt hn] at h6
  rw [nI_toInt hm] at k6
  have e2 : ((2 ^ k : Nat) : Int) = (2 : Int) ^ k := by simp
  have hn2 : n < 2 ^ k := by omega
  have hm2 : m < 2 ^ k := by omega
  have hor : n ||| m < 2 ^ k := Nat.or_lt_two_pow hn2 hm2
  have hk2 : 2 ^ k ≤ 2 ^ 30 := Nat.pow_le_pow_right (by decide) hk
  have ez : z = nI (n ||| m) := by
    rw [q]
    apply Int32.toBitVec_inj.mp
    apply BitVec.eq_of_toNat_eq
    rw [Int32.toBitVec_or, BitVec.toNat_or, pk_tn (by omega), pk_tn (by omega), pk_tn (by omega)]
  rw [ez]
  unfold iv
  rw [nI_toInt (by omega)]
  omega
theorem iv_shr {x y z : Int32} {b : Int} (q : z = x >>> (y &&& 31)) (h : iv x 0 b) : iv z 0 b := by
  obtain ⟨h5, h6⟩ := h
  have e1 := pk_shr x (y &&& 31) _ rfl
  unfold iv
  rw [q, e1]
  have h7 : (0 : Int) ≤ x.toInt >>> (((y &&& 31).toBitVec.smod 32).toNat) := by
    rw [Int.shiftRight_eq_div_pow]; exact Int.ediv_nonneg h5 (Int.natCast_nonneg _)
  have h8 : x.toInt >>> (((y &&& 31).toBitVec.smod 32).toNat) ≤ x.toInt := by
    rw [Int.shiftRight_eq_div_pow]; exact Int.ediv_le_self _ h5
  exact ⟨h7, Int.le_trans h8 h6⟩
/-- families of the people there are -/
def fv (f : Nat → Int32) (n : Int32) : Prop := ∀ k : Nat, (k : Int) < n.toInt → iv (f k) (-1) 7
theorem fv_eq {f g : Nat → Int32} {n m : Int32} (h : fv f n) (e : m = n) (k : ∀ j : Nat, j < 8 → g j = f j) (hn : iv n 0 8) : fv g m := fun j hj => by
  rw [e] at hj
  have := hn.2
  rw [k j (by omega)]; exact h j hj
