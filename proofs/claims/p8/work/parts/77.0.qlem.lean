/-! the reference's lines: what is told, what is done -/
/-- the signs that are laid may be gone over, unless the text is bad -/
def wr (b : Int32) (f : Nat → Int32) (t : Int32) : Prop := ∃ d : Int, wq b f t d
theorem wr_mono {b b' t : Int32} {f : Nat → Int32} (h : wr b f t) (hb : b.toInt ≤ 5 * b'.toInt ∧ 0 ≤ b.toInt) : wr b' f t := by
  obtain ⟨d, hd⟩ := h
  exact ⟨d, wq_mono hd hb⟩
theorem wr_bad {b t : Int32} {f : Nat → Int32} (h : 1 ≤ b.toInt) : wr b f t := ⟨0, wq_bad h⟩
theorem wq_nil {b t : Int32} {f : Nat → Int32} (h : t.toInt = 0) : wq b f t 0 := fun _ => by
  have e : t.toNatClampNeg = 0 := by
    show t.toInt.toNat = 0
    omega
  refine ⟨fun k hk => by omega, ?_⟩
  rw [e]; rfl
theorem wr_nil {b t : Int32} {f : Nat → Int32} (h : t.toInt = 0) : wr b f t := ⟨0, wq_nil h⟩
/-- the families that are told (from place 8 on) may be taken, unless the text is bad -/
def fq (b : Int32) (f : Nat → Int32) (t : Int32) : Prop := b.toInt = 0 → ∀ k : Nat, (k : Int) < t.toInt → iv (f (8 + k)) (-1) 7
theorem fq_mono {b b' t : Int32} {f : Nat → Int32} (h : fq b f t) (hb : b.toInt ≤ 5 * b'.toInt ∧ 0 ≤ b.toInt) : fq b' f t := fun e => h (by omega)
theorem fq_bad {b t : Int32} {f : Nat → Int32} (h : 1 ≤ b.toInt) : fq b f t := fun e => absurd e (by omega)
theorem fq_nil {b t : Int32} {f : Nat → Int32} (h : t.toInt = 0) : fq b f t := fun _ k hk => by omega
theorem fq_up {b t i v : Int32} {f g : Nat → Int32} (h : fq b f t) (eg : g = upd f i.toNatClampNeg v) (hi : i.toInt = 8 + t.toInt) : fq b g t := by
  intro e k hk
  have hn : i.toNatClampNeg ≠ 8 + k := by
    show i.toInt.toNat ≠ 8 + k
    omega
  rw [eg, pk_un (fun q => hn q.symm)]
  exact h e k hk
theorem fq_inc {b b' t t' i v : Int32} {f g : Nat → Int32} (h : fq b g t) (eg : g = upd f i.toNatClampNeg v) (hi : i.toInt = 8 + t.toInt) (hv : b'.toInt = 0 → -1 ≤ v.toInt ∧ v.toInt ≤ 7) (ht : t'.toInt = t.toInt + 1) (hb : b.toInt ≤ 5 * b'.toInt ∧ 0 ≤ b.toInt) : fq b' g t' := by
  intro e k hk
  by_cases q : 8 + k = i.toNatClampNeg
  · rw [q, eg, pk_us]; exact hv e
  · refine h (by omega) k ?_
    have : i.toInt.toNat ≠ 8 + k := fun z => q z.symm
    omega
/-- what is not done yet has told nothing -/
def dq (d : Int32) (f : Nat → Int32) : Prop := (d &&& 4 = 0 → (f 10).toInt = 0) ∧ (d &&& 8 = 0 → (f 11).toInt = 0)
theorem dq_nil {d : Int32} {f : Nat → Int32} (h : (f 10).toInt = 0) (h1 : (f 11).toInt = 0) : dq d f := ⟨fun _ => h, fun _ => h1⟩
theorem dq_eqx {d : Int32} {f g : Nat → Int32} {n : Nat} (h : dq d f) (e : eqx n f g) (h0 : n ≠ 10) (h1 : n ≠ 11) : dq d g := by
  unfold dq
  rw [e 10 (fun q => h0 q.symm), e 11 (fun q => h1 q.symm)]
  exact h
theorem or_and0 {d k z : Int32} (h : (d ||| k) &&& z = 0) : d &&& z = 0 := by
  have e : d &&& (d ||| k) = d := by
    apply Int32.toBitVec_inj.mp
    rw [Int32.toBitVec_and, Int32.toBitVec_or]
    apply BitVec.eq_of_getLsbD_eq
    intro i hi
    rw [BitVec.getLsbD_and, BitVec.getLsbD_or]
    cases d.toBitVec.getLsbD i <;> rfl
  calc d &&& z = (d &&& (d ||| k)) &&& z := by rw [e]
    _ = d &&& ((d ||| k) &&& z) := by rw [Int32.and_assoc]
    _ = 0 := by
      rw [h]; exact Int32.and_zero
theorem dq_or {d : Int32} {f : Nat → Int32} (h : dq d f) (k : Int32) : dq (d ||| k) f := ⟨fun q => h.1 (or_and0 q), fun q => h.2 (or_and0 q)⟩
theorem dn16 {d : Int32} (h : iv d 0 15) : d = 0 ∨ d = 1 ∨ d = 2 ∨ d = 3 ∨ d = 4 ∨ d = 5 ∨ d = 6 ∨ d = 7 ∨ d = 8 ∨ d = 9 ∨ d = 10 ∨ d = 11 ∨ d = 12 ∨ d = 13 ∨ d = 14 ∨ d = 15 := by
  have h1 := h.1; have h2 := h.2
  have e : d = Int32.ofInt d.toInt := (Int32.ofInt_toInt d).symm
  have : d.toInt = 0 ∨ d.toInt = 1 ∨ d.toInt = 2 ∨ d.toInt = 3 ∨ d.toInt = 4 ∨ d.toInt = 5 ∨ d.toInt = 6 ∨ d.toInt = 7 ∨ d.toInt = 8 ∨ d.toInt = 9 ∨ d.toInt = 10 ∨ d.toInt = 11 ∨ d.toInt = 12 ∨ d.toInt = 13 ∨ d.toInt = 14 ∨ d.toInt = 15 := by omega
  rcases this with q | q | q | q | q | q | q | q | q | q | q | q | q | q | q | q <;> (rw [q] at e; rw [e]; decide)
theorem dq_or4 {d : Int32} {f g : Nat → Int32} (h : dq d f) (e : eqx 10 f g) (hd : iv d 0 15) : dq (d ||| 4) g := by
  refine ⟨fun q => ?_, fun q => ?_⟩
  · exfalso
    rcases dn16 hd with z | z | z | z | z | z | z | z | z | z | z | z | z | z | z | z <;> (subst z; revert q; decide)
  · rw [e 11 (by decide)]; exact h.2 (or_and0 q)
theorem dq_or8 {d : Int32} {f g : Nat → Int32} (h : dq d f) (e : eqx 11 f g) (hd : iv d 0 15) : dq (d ||| 8) g := by
  refine ⟨fun q => ?_, fun q => ?_⟩
  · rw [e 10 (by decide)]; exact h.1 (or_and0 q)
  · exfalso
    rcases dn16 hd with z | z | z | z | z | z | z | z | z | z | z | z | z | z | z | z <;> (subst z; revert q; decide)
/-- a count above place 6 is set -/
theorem tv_up {f g : Nat → Int32} {i v : Int32} (h : tv f) (eg : g = upd f i.toNatClampNeg v) (hi : 6 ≤ i.toInt) : tv g := by
  have hn : 6 ≤ i.toNatClampNeg := by
    show 6 ≤ i.toInt.toNat
    omega
  unfold tv at h ⊢
  rw [eg, pk_un (by omega), pk_un (by omega), pk_un (by omega), pk_un (by omega), pk_un (by omega)]
  exact h
theorem wf_upt {f g s : Nat → Int32} {i v : Int32} {k : Nat} (h : wf s (f k)) (eg : g = upd f i.toNatClampNeg v) (hi : 6 ≤ i.toInt) (hk : k < 6) : wf s (g k) := by
  have hn : 6 ≤ i.toNatClampNeg := by
    show 6 ≤ i.toInt.toNat
    omega
  rw [eg, pk_un (by omega)]; exact h
theorem at_up {f g : Nat → Int32} {i v : Int32} (j : Nat) (eg : g = upd f i.toNatClampNeg v) (hi : 0 ≤ i.toInt) : (i.toInt = (j : Int) ∧ (g j).toInt = v.toInt) ∨ (i.toInt ≠ (j : Int) ∧ (g j).toInt = (f j).toInt) := by
  by_cases q : i.toInt = (j : Int)
  · refine Or.inl ⟨q, ?_⟩
    have : i.toNatClampNeg = j := by
      show i.toInt.toNat = j
      omega
    rw [eg, this, pk_us]
  · refine Or.inr ⟨q, ?_⟩
    have : j ≠ i.toNatClampNeg := by
      show j ≠ i.toInt.toNat
      omega
    rw [eg, pk_un this]
theorem tv_take {f g : Nat → Int32} (h : ∀ j : Nat, j < 6 → g j = f (6 + j)) (u : 0 ≤ (f 6).toInt ∧ (f 6).toInt ≤ 8 ∧ 0 ≤ (f 7).toInt ∧ (f 7).toInt ≤ 8 ∧ 0 ≤ (f 8).toInt ∧ (f 8).toInt ≤ 8 ∧ 0 ≤ (f 10).toInt ∧ (f 10).toInt ≤ 700 ∧ 0 ≤ (f 11).toInt ∧ (f 11).toInt ≤ 700) : tv g := by
  unfold tv
  rw [h 0 (by decide), h 1 (by decide), h 2 (by decide), h 4 (by decide), h 5 (by decide)]
  unfold iv
  refine ⟨⟨?_, ?_⟩, ⟨?_, ?_⟩, ⟨?_, ?_⟩, ⟨?_, ?_⟩, ⟨?_, ?_⟩⟩ <;> (show _ ≤ _; first | exact u.1 | exact u.2.1 | exact u.2.2.1 | exact u.2.2.2.1 | exact u.2.2.2.2.1 | exact u.2.2.2.2.2.1 | exact u.2.2.2.2.2.2.1 | exact u.2.2.2.2.2.2.2.1 | exact u.2.2.2.2.2.2.2.2.1 | exact u.2.2.2.2.2.2.2.2.2)
/-- what was told is taken over -/
theorem wf_take {b t t' : Int32} {f g : Nat → Int32} (h : wr b f t) (hb : b.toInt = 0) (ht : t' = t) (hT : t.toInt ≤ 700) (hg : ∀ j : Nat, j < 700 → g j = f (700 + j)) : wf g t' := by
  obtain ⟨d, hd⟩ := h
  intro k hk
  rw [ht] at hk
  have e : dep g k = dep (fun j => f (700 + j)) k := dep_congr k (fun j hj => hg j (by omega))
  rw [hg k (by omega), e]
  exact (hd hb).1 k hk
/-- the families that are taken over -/
def fo (f : Nat → Int32) (t : Int32) : Prop := ∀ k : Nat, (k : Int) < t.toInt → iv (f k) (-1) 7
theorem fo_take {b t t' : Int32} {f g : Nat → Int32} (h : fq b f t) (hb : b.toInt = 0) (ht : t' = t) (hT : t.toInt ≤ 8) (hg : ∀ j : Nat, j < 8 → g j = f (8 + j)) : fo g t' := by
  intro k hk
  rw [ht] at hk
  rw [hg k (by omega)]
  exact h hb k hk
theorem fo_at {f : Nat → Int32} {t i x : Int32} (h : fo f t) (e : x = f i.toNatClampNeg) (hi : 0 ≤ i.toInt) (hl : i.toInt < t.toInt) : iv x (-1) 7 := by
  rw [e]
  refine h _ ?_
  show ((i.toInt.toNat : Nat) : Int) < _
  omega
