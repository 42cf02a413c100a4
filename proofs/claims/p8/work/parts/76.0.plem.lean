/-! the reference's reader: signs that are laid, counts that are told -/
/-- the signs that are laid so far (from place 700 on) leave d numbers, unless the text is bad -/
def wq (b : Int32) (f : Nat → Int32) (t : Int32) (d : Int) : Prop := b.toInt = 0 → (∀ k : Nat, (k : Int) < t.toInt → okat (f (700 + k)) (dep (fun j => f (700 + j)) k)) ∧ dep (fun j => f (700 + j)) t.toNatClampNeg = d
theorem wq_mono {b b' t : Int32} {f : Nat → Int32} {d : Int} (h : wq b f t d) (hb : b.toInt ≤ 5 * b'.toInt ∧ 0 ≤ b.toInt) : wq b' f t d := fun e => h (by omega)
theorem wq_bad {b t : Int32} {f : Nat → Int32} {d : Int} (h : 1 ≤ b.toInt) : wq b f t d := fun e => absurd e (by omega)
theorem dep_congr {f g : Nat → Int32} : ∀ k : Nat, (∀ j : Nat, j < k → g j = f j) → dep g k = dep f k := by
  intro k
  induction k with
  | zero => intro _; rfl
  | succ k ih =>
    intro h
    show dep g k + dlt (g k) = dep f k + dlt (f k)
    rw [ih (fun j hj => h j (by omega)), h k (by omega)]
theorem cl_eq {x : Int32} {n : Nat} (h : iv x n n) : x.toNatClampNeg = n := by
  have h1 := h.1; have h2 := h.2
  show x.toInt.toNat = n
  omega
theorem wq_lay {b t t' x i : Int32} {f g : Nat → Int32} {d e : Int} (h : wq b f t d) (eg : g = upd f i.toNatClampNeg x) (ei : i.toInt = 700 + t.toInt) (et : t'.toInt = t.toInt + 1) (ht : 0 ≤ t.toInt) (hok : okat x d) (he : e = d + dlt x) : wq b g t' e := by
  intro hb
  obtain ⟨h1, h2⟩ := h hb
  have hi : i.toNatClampNeg = 700 + t.toNatClampNeg := by
    show i.toInt.toNat = 700 + t.toInt.toNat
    omega
  have hT : ((t.toNatClampNeg : Nat) : Int) = t.toInt := by
    show ((t.toInt.toNat : Nat) : Int) = _
    omega
  have ht' : t'.toNatClampNeg = t.toNatClampNeg + 1 := by
    show t'.toInt.toNat = t.toInt.toNat + 1
    omega
  have hs : ∀ j : Nat, j < t.toNatClampNeg → g (700 + j) = f (700 + j) := fun j hj => by rw [eg, pk_un (by omega)]
  have hg : g (700 + t.toNatClampNeg) = x := by rw [eg, hi, pk_us]
  have hd : dep (fun j => g (700 + j)) t.toNatClampNeg = d := by rw [← h2]; exact dep_congr _ hs
  refine ⟨fun k hk => ?_, ?_⟩
  · by_cases hkt : k = t.toNatClampNeg
    · rw [hkt, hg, hd]; exact hok
    · have hk2 : k < t.toNatClampNeg := by omega
      rw [hs k hk2, dep_congr (f := fun j => f (700 + j)) (g := fun j => g (700 + j)) k (fun j hj => hs j (by omega))]
      exact h1 k (by omega)
  · rw [ht']
    show dep (fun j => g (700 + j)) t.toNatClampNeg + dlt (g (700 + t.toNatClampNeg)) = e
    rw [hd, hg, he]
theorem wf_up {f g : Nat → Int32} {z i x : Int32} (h : wf f z) (hz : z.toInt ≤ 700) (eg : g = upd f i.toNatClampNeg x) (hi : 700 ≤ i.toInt) : wf g z := by
  have hn : 700 ≤ i.toNatClampNeg := by
    show 700 ≤ i.toInt.toNat
    omega
  intro k hk
  have hs : ∀ j : Nat, j ≤ k → g j = f j := fun j hj => by rw [eg, pk_un (by omega)]
  rw [hs k (Nat.le_refl _), dep_congr k (fun j hj => hs j (by omega))]
  exact h k hk
/-- all but place n are the same -/
def eqx (n : Nat) (f g : Nat → Int32) : Prop := ∀ j : Nat, j ≠ n → g j = f j
theorem eqx_rf {n : Nat} {f : Nat → Int32} : eqx n f f := fun _ _ => rfl
theorem eqx_tr {n : Nat} {f g h : Nat → Int32} (a : eqx n f g) (b : eqx n g h) : eqx n f h := fun j hj => (b j hj).trans (a j hj)
theorem eqx_up {n : Nat} {f g : Nat → Int32} {i x : Int32} (hi : i.toNatClampNeg = n) (eg : g = upd f i.toNatClampNeg x) : eqx n f g := fun j hj => by rw [eg, pk_un (by omega)]
theorem tv_eqx {n : Nat} {f g : Nat → Int32} (h : tv f) (e : eqx n f g) (hn : 6 ≤ n) : tv g := by
  unfold tv at h ⊢
  rw [e 0 (by omega), e 1 (by omega), e 2 (by omega), e 4 (by omega), e 5 (by omega)]
  exact h
theorem wf_eqx {n k : Nat} {f a b : Nat → Int32} (h : wf f (a k)) (e : eqx n a b) (hk : k ≠ n) : wf f (b k) := by rw [e k hk]; exact h
theorem okat_b {x : Int32} {d : Int} (h : iv x (-27) (-20)) (h1 : 2 ≤ d ∧ d ≤ 32) : okat x d := ⟨fun q => by have := h.2; omega, fun q => by have := h.1; omega, fun _ _ => h1⟩
theorem okat_n {x : Int32} {d : Int} (h : iv x (-28) (-28)) (h1 : 1 ≤ d ∧ d ≤ 32) : okat x d := ⟨fun q => by have := h.2; omega, fun _ => h1, fun _ q => by have := h.1; have := h.2; omega⟩
theorem okat_p {x : Int32} {d : Int} (h : iv x (-5) 9999) (h1 : 0 ≤ d ∧ d ≤ 31) : okat x d := ⟨fun _ => ⟨h.1, h1.1, by omega⟩, fun q => by have := h.1; omega, fun q => by have := h.1; omega⟩
theorem dl_b {x : Int32} {d e : Int} (h : iv x (-27) (-20)) (h1 : e = d - 1) : e = d + dlt x := by rw [dlt_b h.2 (by have := h.1; omega)]; omega
theorem dl_n {x : Int32} {d e : Int} (h : iv x (-28) (-28)) (h1 : e = d) : e = d + dlt x := by rw [dlt_n (by have := h.1; have := h.2; omega)]; omega
theorem dl_p {x : Int32} {d e : Int} (h : iv x (-5) 9999) (h1 : e = d + 1) : e = d + dlt x := by rw [dlt_p (by have := h.1; omega)]; omega
