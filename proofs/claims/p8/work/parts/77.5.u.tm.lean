/-! the second halves become the first ones: the whole plan as told -/
theorem q_half12 (f : Nat → Int32) : ∀ k : Nat, k < 6 → m_Model_takeHalf12 f k = f (6 + k) := by
  have e8 : (12 : Int32) / (2 : Int32) = 6 := by decide
  have eH : (6 : Int32).toInt = 6 := rfl
  unfold m_Model_takeHalf12 m_Model_takeHalf12_k2
  refine uy_inv (α := Int32 × (Nat → Int32)) 6 (fun k a => a.1.toInt = (k : Int) ∧ ∀ j : Nat, (j < k → a.2 j = f (6 + j)) ∧ (k ≤ j → a.2 j = f j)) (fun g : Nat → Int32 => ∀ k : Nat, k < 6 → g k = f (6 + k)) ?_ ⟨rfl, fun j => ⟨fun h => absurd h (Nat.not_lt_zero j), fun _ => rfl⟩⟩
  rintro k ⟨i, g⟩ hk ⟨hi, hg⟩
  have hi : i.toInt = (k : Int) := hi
  have hg : ∀ j : Nat, (j < k → g j = f (6 + j)) ∧ (k ≤ j → g j = f j) := hg
  have E : m_Model_takeHalf12_b2 f i g = (if (12 : Int32) / (2 : Int32) ≤ i then .inr g else .inl (i + 1, upd g i.toNatClampNeg (g ((12 : Int32) / (2 : Int32) + i).toNatClampNeg))) := rfl
  rw [e8] at E
  by_cases h : (6 : Int32) ≤ i
  · refine Or.inr ⟨g, E.trans (if_pos h), fun j hj => (hg j).1 ?_⟩
    have := ct_ge h hi; omega
  · have hl := ct_lt h hi
    have ec : ((6 : Int32) + i).toNatClampNeg = 6 + k := by
      show ((6 : Int32) + i).toInt.toNat = _
      rw [iv_tadd (by omega) (by omega)]; omega
    refine Or.inl ⟨by omega, _, E.trans (if_neg h), ct_s hi (by omega), fun j => ?_⟩
    show (j < k + 1 → upd g i.toNatClampNeg (g ((6 : Int32) + i).toNatClampNeg) j = _) ∧ (k + 1 ≤ j → upd g i.toNatClampNeg (g ((6 : Int32) + i).toNatClampNeg) j = _)
    rw [ct_n hi, ec]
    by_cases q : j = k
    · rw [q, pk_us]; exact ⟨fun _ => (hg (6 + k)).2 (by omega), fun w => absurd w (by omega)⟩
    · rw [pk_un q]; exact ⟨fun w => (hg j).1 (by omega), fun w => (hg j).2 (by omega)⟩
theorem q_half16 (f : Nat → Int32) : ∀ k : Nat, k < 8 → m_Model_takeHalf16 f k = f (8 + k) := by
  have e8 : (16 : Int32) / (2 : Int32) = 8 := by decide
  have eH : (8 : Int32).toInt = 8 := rfl
  unfold m_Model_takeHalf16 m_Model_takeHalf16_k2
  refine uy_inv (α := Int32 × (Nat → Int32)) 8 (fun k a => a.1.toInt = (k : Int) ∧ ∀ j : Nat, (j < k → a.2 j = f (8 + j)) ∧ (k ≤ j → a.2 j = f j)) (fun g : Nat → Int32 => ∀ k : Nat, k < 8 → g k = f (8 + k)) ?_ ⟨rfl, fun j => ⟨fun h => absurd h (Nat.not_lt_zero j), fun _ => rfl⟩⟩
  rintro k ⟨i, g⟩ hk ⟨hi, hg⟩
  have hi : i.toInt = (k : Int) := hi
  have hg : ∀ j : Nat, (j < k → g j = f (8 + j)) ∧ (k ≤ j → g j = f j) := hg
  have E : m_Model_takeHalf16_b2 f i g = (if (16 : Int32) / (2 : Int32) ≤ i then .inr g else .inl (i + 1, upd g i.toNatClampNeg (g ((16 : Int32) / (2 : Int32) + i).toNatClampNeg))) := rfl
  rw [e8] at E
  by_cases h : (8 : Int32) ≤ i
  · refine Or.inr ⟨g, E.trans (if_pos h), fun j hj => (hg j).1 ?_⟩
    have := ct_ge h hi; omega
  · have hl := ct_lt h hi
    have ec : ((8 : Int32) + i).toNatClampNeg = 8 + k := by
      show ((8 : Int32) + i).toInt.toNat = _
      rw [iv_tadd (by omega) (by omega)]; omega
    refine Or.inl ⟨by omega, _, E.trans (if_neg h), ct_s hi (by omega), fun j => ?_⟩
    show (j < k + 1 → upd g i.toNatClampNeg (g ((8 : Int32) + i).toNatClampNeg) j = _) ∧ (k + 1 ≤ j → upd g i.toNatClampNeg (g ((8 : Int32) + i).toNatClampNeg) j = _)
    rw [ct_n hi, ec]
    by_cases q : j = k
    · rw [q, pk_us]; exact ⟨fun _ => (hg (8 + k)).2 (by omega), fun w => absurd w (by omega)⟩
    · rw [pk_un q]; exact ⟨fun w => (hg j).1 (by omega), fun w => (hg j).2 (by omega)⟩
theorem q_half1400 (f : Nat → Int32) : ∀ k : Nat, k < 700 → m_Model_takeHalf1400 f k = f (700 + k) := by
  have e8 : (1400 : Int32) / (2 : Int32) = 700 := by decide
  have eH : (700 : Int32).toInt = 700 := rfl
  unfold m_Model_takeHalf1400 m_Model_takeHalf1400_k2
  refine uy_inv (α := Int32 × (Nat → Int32)) 700 (fun k a => a.1.toInt = (k : Int) ∧ ∀ j : Nat, (j < k → a.2 j = f (700 + j)) ∧ (k ≤ j → a.2 j = f j)) (fun g : Nat → Int32 => ∀ k : Nat, k < 700 → g k = f (700 + k)) ?_ ⟨rfl, fun j => ⟨fun h => absurd h (Nat.not_lt_zero j), fun _ => rfl⟩⟩
  rintro k ⟨i, g⟩ hk ⟨hi, hg⟩
  have hi : i.toInt = (k : Int) := hi
  have hg : ∀ j : Nat, (j < k → g j = f (700 + j)) ∧ (k ≤ j → g j = f j) := hg
  have E : m_Model_takeHalf1400_b2 f i g = (if (1400 : Int32) / (2 : Int32) ≤ i then .inr g else .inl (i + 1, upd g i.toNatClampNeg (g ((1400 : Int32) / (2 : Int32) + i).toNatClampNeg))) := rfl
  rw [e8] at E
  by_cases h : (700 : Int32) ≤ i
  · refine Or.inr ⟨g, E.trans (if_pos h), fun j hj => (hg j).1 ?_⟩
    have := ct_ge h hi; omega
  · have hl := ct_lt h hi
    have ec : ((700 : Int32) + i).toNatClampNeg = 700 + k := by
      show ((700 : Int32) + i).toInt.toNat = _
      rw [iv_tadd (by omega) (by omega)]; omega
    refine Or.inl ⟨by omega, _, E.trans (if_neg h), ct_s hi (by omega), fun j => ?_⟩
    show (j < k + 1 → upd g i.toNatClampNeg (g ((700 : Int32) + i).toNatClampNeg) j = _) ∧ (k + 1 ≤ j → upd g i.toNatClampNeg (g ((700 : Int32) + i).toNatClampNeg) j = _)
    rw [ct_n hi, ec]
    by_cases q : j = k
    · rw [q, pk_us]; exact ⟨fun _ => (hg (700 + k)).2 (by omega), fun w => absurd w (by omega)⟩
    · rw [pk_un q]; exact ⟨fun w => (hg j).1 (by omega), fun w => (hg j).2 (by omega)⟩
theorem dep_c {f g : Nat → Int32} : ∀ k : Nat, (∀ j : Nat, j < k → f j = g j) → dep f k = dep g k := by
  intro k
  induction k with
  | zero => intro _; rfl
  | succ k ih =>
    intro h
    show dep f k + dlt (f k) = dep g k + dlt (g k)
    rw [ih (fun j hj => h j (by omega)), h k (by omega)]
/-- all that a text told, as the reference has it then -/
def ux_TM (t : ((Nat × Nat) × Nat × Nat × Nat × Nat × Nat × Nat) × PV) (told orp rains sgW sgS jaw brow stone face fore age family seat : Nat → Int32) (yr acts seen : Int32) : Prop :=
  (told 0).toInt = (t.1.2.1 : Int) ∧ (told 1).toInt = (t.1.2.2.1 : Int) ∧ yr = 0 ∧ acts = 0 ∧ seen = 0 ∧
  (∀ k : Nat, k < 8 → (k : Int) < (told 0).toInt → stone k = t.2.1 2 k ∧ jaw k = (if t.2.1 2 k ≤ 0 then 0 else t.2.1 0 k) ∧ brow k = (if t.2.1 2 k ≤ 0 then 0 else t.2.1 1 k)) ∧
  (∀ k : Nat, k < 8 → (k : Int) < (told 1).toInt → orp k = t.2.1 3 k ∧ face k = t.2.1 4 k ∧ fore k = t.2.1 5 k ∧ age k = t.2.1 6 k ∧ family k = t.2.1 7 k ∧ seat k = -1) ∧
  told 2 = t.2.1 9 1 ∧ (∀ k : Nat, k < 8 → (k : Int) < (told 2).toInt → rains k = t.2.1 8 k) ∧ told 3 = t.2.1 9 0 ∧
  ((told 4).toInt = (t.2.2.1.length : Int) ∧ (∀ k : Nat, k < 700 → (k : Int) < (told 4).toInt → (sgW k).toInt = t.2.2.1.getD k 0) ∧ ((told 4).toInt = 0 ∨ 700 < (told 4).toInt ∨ dep sgW (told 4).toInt.toNat = 1)) ∧
  ((told 5).toInt = (t.2.2.2.length : Int) ∧ (∀ k : Nat, k < 700 → (k : Int) < (told 5).toInt → (sgS k).toInt = t.2.2.2.getD k 0) ∧ ((told 5).toInt = 0 ∨ 700 < (told 5).toInt ∨ dep sgS (told 5).toInt.toNat = 1))
section UXTM
variable {tp T jT bT sT oT fT hT aT mT rT sgW sgS jaw brow stn fc fh ag fm se jaw1 brow1 stn1 T2 j2 b2 s2 o2 f2 h2 a2 m2 r2 W2 S2 jaw2 brow2 stn2 fc2 fh2 ag2 fm2 se2 : Nat → Int32} {ac sn hm yr2 ac2 sn2 hm2 n n' bd d : Int32} {z : PV} {s : (Nat × Nat) × Nat × Nat × Nat × Nat × Nat × Nat}
theorem q_tkP (A : ((Int32 × Int32 × Int32 × Int32 × Int32 × (Nat → Int32) × (Nat → Int32) × (Nat → Int32) × (Nat → Int32) × (Nat → Int32) × (Nat → Int32) × (Nat → Int32) × (Nat → Int32) × (Nat → Int32) × (Nat → Int32) × (Nat → Int32) × (Nat → Int32) × (Nat → Int32) × (Nat → Int32) × (Nat → Int32) × (Nat → Int32) × (Nat → Int32) × (Nat → Int32) × (Nat → Int32) × (Nat → Int32)))) (hA : A = (yr2, ac, sn, hm, 0, T2, j2, b2, s2, o2, f2, h2, a2, m2, r2, W2, S2, jaw1, brow1, stn1, fc, fh, ag, fm, se)) :
    ∃ fc3 fh3 ag3 fm3 se3 : Nat → Int32, m_Model_takeOver_k191 ac sn hm T jT bT sT oT fT hT aT mT rT sgW sgS jaw brow stn fc fh ag fm se A = (yr2, 0, 0, 0, T2, j2, b2, s2, o2, f2, h2, a2, m2, r2, W2, S2, jaw1, brow1, stn1, fc3, fh3, ag3, fm3, se3) ∧ ∀ k : Nat, k < 8 → (k : Int) < (T2 1).toInt → fc3 k = f2 k ∧ fh3 k = h2 k ∧ ag3 k = a2 k ∧ fm3 k = m2 k ∧ se3 k = -1 := by
  subst hA
  unfold m_Model_takeOver_k191
  refine uy_inv (α := Int32 × Int32 × Int32 × Int32 × Int32 × (Nat → Int32) × (Nat → Int32) × (Nat → Int32) × (Nat → Int32) × (Nat → Int32) × (Nat → Int32) × (Nat → Int32) × (Nat → Int32) × (Nat → Int32) × (Nat → Int32) × (Nat → Int32) × (Nat → Int32) × (Nat → Int32) × (Nat → Int32) × (Nat → Int32) × (Nat → Int32) × (Nat → Int32) × (Nat → Int32) × (Nat → Int32) × (Nat → Int32)) 8 (fun k A => ∃ (i : Int32) (fc3 fh3 ag3 fm3 se3 : Nat → Int32), A = (yr2, ac, sn, hm, i, T2, j2, b2, s2, o2, f2, h2, a2, m2, r2, W2, S2, jaw1, brow1, stn1, fc3, fh3, ag3, fm3, se3) ∧ i.toInt = (k : Int) ∧ ∀ j : Nat, j < k → (j : Int) < (T2 1).toInt → fc3 j = f2 j ∧ fh3 j = h2 j ∧ ag3 j = a2 j ∧ fm3 j = m2 j ∧ se3 j = -1) (fun R => ∃ fc3 fh3 ag3 fm3 se3 : Nat → Int32, R = (yr2, 0, 0, 0, T2, j2, b2, s2, o2, f2, h2, a2, m2, r2, W2, S2, jaw1, brow1, stn1, fc3, fh3, ag3, fm3, se3) ∧ ∀ k : Nat, k < 8 → (k : Int) < (T2 1).toInt → fc3 k = f2 k ∧ fh3 k = h2 k ∧ ag3 k = a2 k ∧ fm3 k = m2 k ∧ se3 k = -1) ?_ ⟨0, fc, fh, ag, fm, se, rfl, rfl, fun j hj => absurd hj (Nat.not_lt_zero j)⟩
  rintro k _ hk ⟨i, fc3, fh3, ag3, fm3, se3, rfl, hi, hq⟩
  have E : m_Model_takeOver_b191 ac sn hm T jT bT sT oT fT hT aT mT rT sgW sgS jaw brow stn fc fh ag fm se yr2 ac sn hm i T2 j2 b2 s2 o2 f2 h2 a2 m2 r2 W2 S2 jaw1 brow1 stn1 fc3 fh3 ag3 fm3 se3 = (if (8 : Int32) ≤ i then .inr (yr2, 0, 0, 0, T2, j2, b2, s2, o2, f2, h2, a2, m2, r2, W2, S2, jaw1, brow1, stn1, fc3, fh3, ag3, fm3, se3) else if T2 1 ≤ i then .inl (yr2, ac, sn, hm, i + 1, T2, j2, b2, s2, o2, f2, h2, a2, m2, r2, W2, S2, jaw1, brow1, stn1, upd fc3 i.toNatClampNeg 0, upd fh3 i.toNatClampNeg 0, upd ag3 i.toNatClampNeg 0, upd fm3 i.toNatClampNeg (-1), upd se3 i.toNatClampNeg (-1)) else .inl (yr2, ac, sn, hm, i + 1, T2, j2, b2, s2, o2, f2, h2, a2, m2, r2, W2, S2, jaw1, brow1, stn1, upd fc3 i.toNatClampNeg (f2 i.toNatClampNeg), upd fh3 i.toNatClampNeg (h2 i.toNatClampNeg), upd ag3 i.toNatClampNeg (a2 i.toNatClampNeg), upd fm3 i.toNatClampNeg (m2 i.toNatClampNeg), upd se3 i.toNatClampNeg (-1))) := rfl
  have e8 : (8 : Int32).toInt = 8 := rfl
  by_cases h : (8 : Int32) ≤ i
  · have := ct_ge h hi
    exact Or.inr ⟨_, E.trans (if_pos h), fc3, fh3, ag3, fm3, se3, rfl, fun j hj => hq j (by omega)⟩
  · have hl := ct_lt h hi
    rw [ct_n hi] at E
    by_cases w : T2 1 ≤ i
    · refine Or.inl ⟨by omega, _, E.trans ((if_neg h).trans (if_pos w)), i + 1, _, _, _, _, _, rfl, ct_s hi (by omega), fun j hj hp => ?_⟩
      have := ct_ge w hi
      have q : j ≠ k := by omega
      rw [pk_un q, pk_un q, pk_un q, pk_un q, pk_un q]
      exact hq j (by omega) hp
    · refine Or.inl ⟨by omega, _, E.trans ((if_neg h).trans (if_neg w)), i + 1, _, _, _, _, _, rfl, ct_s hi (by omega), fun j hj hp => ?_⟩
      by_cases q : j = k
      · rw [q, pk_us, pk_us, pk_us, pk_us, pk_us]; exact ⟨rfl, rfl, rfl, rfl, rfl⟩
      · rw [pk_un q, pk_un q, pk_un q, pk_un q, pk_un q]
        exact hq j (by omega) hp
theorem q_tkG (A : ((Int32 × Int32 × Int32 × Int32 × Int32 × (Nat → Int32) × (Nat → Int32) × (Nat → Int32) × (Nat → Int32) × (Nat → Int32) × (Nat → Int32) × (Nat → Int32) × (Nat → Int32) × (Nat → Int32) × (Nat → Int32) × (Nat → Int32) × (Nat → Int32) × (Nat → Int32) × (Nat → Int32) × (Nat → Int32) × (Nat → Int32) × (Nat → Int32) × (Nat → Int32) × (Nat → Int32) × (Nat → Int32)))) (hA : A = (yr2, ac, sn, hm, 0, T2, j2, b2, s2, o2, f2, h2, a2, m2, r2, W2, S2, jaw, brow, stn, fc, fh, ag, fm, se)) :
    ∃ jaw3 brow3 stn3 : Nat → Int32, m_Model_takeOver_k91 ac sn hm T jT bT sT oT fT hT aT mT rT sgW sgS jaw brow stn fc fh ag fm se A = m_Model_takeOver_k191 ac sn hm T jT bT sT oT fT hT aT mT rT sgW sgS jaw brow stn fc fh ag fm se (yr2, ac, sn, hm, 0, T2, j2, b2, s2, o2, f2, h2, a2, m2, r2, W2, S2, jaw3, brow3, stn3, fc, fh, ag, fm, se) ∧ ∀ k : Nat, k < 8 → (k : Int) < (T2 0).toInt → stn3 k = s2 k ∧ jaw3 k = (if s2 k ≤ 0 then 0 else j2 k) ∧ brow3 k = (if s2 k ≤ 0 then 0 else b2 k) := by
  subst hA
  have Z := uy_inv (α := Int32 × Int32 × Int32 × Int32 × Int32 × (Nat → Int32) × (Nat → Int32) × (Nat → Int32) × (Nat → Int32) × (Nat → Int32) × (Nat → Int32) × (Nat → Int32) × (Nat → Int32) × (Nat → Int32) × (Nat → Int32) × (Nat → Int32) × (Nat → Int32) × (Nat → Int32) × (Nat → Int32) × (Nat → Int32) × (Nat → Int32) × (Nat → Int32) × (Nat → Int32) × (Nat → Int32) × (Nat → Int32)) (d := (0, 0, 0, 0, fun _ => 0, fun _ => 0, fun _ => 0, fun _ => 0, fun _ => 0, fun _ => 0, fun _ => 0, fun _ => 0, fun _ => 0, fun _ => 0, fun _ => 0, fun _ => 0, fun _ => 0, fun _ => 0, fun _ => 0, fun _ => 0, fun _ => 0, fun _ => 0, fun _ => 0, fun _ => 0)) (F := fun v => m_Model_takeOver_b91 ac sn hm T jT bT sT oT fT hT aT mT rT sgW sgS jaw brow stn fc fh ag fm se v.1 v.2.1 v.2.2.1 v.2.2.2.1 v.2.2.2.2.1 v.2.2.2.2.2.1 v.2.2.2.2.2.2.1 v.2.2.2.2.2.2.2.1 v.2.2.2.2.2.2.2.2.1 v.2.2.2.2.2.2.2.2.2.1 v.2.2.2.2.2.2.2.2.2.2.1 v.2.2.2.2.2.2.2.2.2.2.2.1 v.2.2.2.2.2.2.2.2.2.2.2.2.1 v.2.2.2.2.2.2.2.2.2.2.2.2.2.1 v.2.2.2.2.2.2.2.2.2.2.2.2.2.2.1 v.2.2.2.2.2.2.2.2.2.2.2.2.2.2.2.1 v.2.2.2.2.2.2.2.2.2.2.2.2.2.2.2.2.1 v.2.2.2.2.2.2.2.2.2.2.2.2.2.2.2.2.2.1 v.2.2.2.2.2.2.2.2.2.2.2.2.2.2.2.2.2.2.1 v.2.2.2.2.2.2.2.2.2.2.2.2.2.2.2.2.2.2.2.1 v.2.2.2.2.2.2.2.2.2.2.2.2.2.2.2.2.2.2.2.2.1 v.2.2.2.2.2.2.2.2.2.2.2.2.2.2.2.2.2.2.2.2.2.1 v.2.2.2.2.2.2.2.2.2.2.2.2.2.2.2.2.2.2.2.2.2.2.1 v.2.2.2.2.2.2.2.2.2.2.2.2.2.2.2.2.2.2.2.2.2.2.2.1 v.2.2.2.2.2.2.2.2.2.2.2.2.2.2.2.2.2.2.2.2.2.2.2.2) 8 (fun k A => ∃ (i : Int32) (jaw3 brow3 stn3 : Nat → Int32), A = (yr2, ac, sn, hm, i, T2, j2, b2, s2, o2, f2, h2, a2, m2, r2, W2, S2, jaw3, brow3, stn3, fc, fh, ag, fm, se) ∧ i.toInt = (k : Int) ∧ ∀ j : Nat, j < k → (j : Int) < (T2 0).toInt → stn3 j = s2 j ∧ jaw3 j = (if s2 j ≤ 0 then 0 else j2 j) ∧ brow3 j = (if s2 j ≤ 0 then 0 else b2 j)) (fun R => ∃ jaw3 brow3 stn3 : Nat → Int32, R = m_Model_takeOver_k191 ac sn hm T jT bT sT oT fT hT aT mT rT sgW sgS jaw brow stn fc fh ag fm se (yr2, ac, sn, hm, 0, T2, j2, b2, s2, o2, f2, h2, a2, m2, r2, W2, S2, jaw3, brow3, stn3, fc, fh, ag, fm, se) ∧ ∀ k : Nat, k < 8 → (k : Int) < (T2 0).toInt → stn3 k = s2 k ∧ jaw3 k = (if s2 k ≤ 0 then 0 else j2 k) ∧ brow3 k = (if s2 k ≤ 0 then 0 else b2 k)) ?_ (a := (yr2, ac, sn, hm, 0, T2, j2, b2, s2, o2, f2, h2, a2, m2, r2, W2, S2, jaw, brow, stn, fc, fh, ag, fm, se)) ⟨0, jaw, brow, stn, rfl, rfl, fun j hj => absurd hj (Nat.not_lt_zero j)⟩
  · exact Z
  · rintro k _ hk ⟨i, jaw3, brow3, stn3, rfl, hi, hq⟩
    have E : m_Model_takeOver_b91 ac sn hm T jT bT sT oT fT hT aT mT rT sgW sgS jaw brow stn fc fh ag fm se yr2 ac sn hm i T2 j2 b2 s2 o2 f2 h2 a2 m2 r2 W2 S2 jaw3 brow3 stn3 fc fh ag fm se = (if (8 : Int32) ≤ i then .inr (m_Model_takeOver_k191 ac sn hm T jT bT sT oT fT hT aT mT rT sgW sgS jaw brow stn fc fh ag fm se (yr2, ac, sn, hm, 0, T2, j2, b2, s2, o2, f2, h2, a2, m2, r2, W2, S2, jaw3, brow3, stn3, fc, fh, ag, fm, se)) else if T2 0 ≤ i then (if upd stn3 i.toNatClampNeg 0 i.toNatClampNeg ≤ 0 then .inl (yr2, ac, sn, hm, i + 1, T2, j2, b2, s2, o2, f2, h2, a2, m2, r2, W2, S2, upd jaw3 i.toNatClampNeg 0, upd brow3 i.toNatClampNeg 0, upd stn3 i.toNatClampNeg 0, fc, fh, ag, fm, se) else .inl (yr2, ac, sn, hm, i + 1, T2, j2, b2, s2, o2, f2, h2, a2, m2, r2, W2, S2, upd jaw3 i.toNatClampNeg (j2 i.toNatClampNeg), upd brow3 i.toNatClampNeg (b2 i.toNatClampNeg), upd stn3 i.toNatClampNeg 0, fc, fh, ag, fm, se)) else (if upd stn3 i.toNatClampNeg (s2 i.toNatClampNeg) i.toNatClampNeg ≤ 0 then .inl (yr2, ac, sn, hm, i + 1, T2, j2, b2, s2, o2, f2, h2, a2, m2, r2, W2, S2, upd jaw3 i.toNatClampNeg 0, upd brow3 i.toNatClampNeg 0, upd stn3 i.toNatClampNeg (s2 i.toNatClampNeg), fc, fh, ag, fm, se) else .inl (yr2, ac, sn, hm, i + 1, T2, j2, b2, s2, o2, f2, h2, a2, m2, r2, W2, S2, upd jaw3 i.toNatClampNeg (j2 i.toNatClampNeg), upd brow3 i.toNatClampNeg (b2 i.toNatClampNeg), upd stn3 i.toNatClampNeg (s2 i.toNatClampNeg), fc, fh, ag, fm, se))) := rfl
    have e8 : (8 : Int32).toInt = 8 := rfl
    by_cases h : (8 : Int32) ≤ i
    · have := ct_ge h hi
      exact Or.inr ⟨_, E.trans (if_pos h), jaw3, brow3, stn3, rfl, fun j hj => hq j (by omega)⟩
    · have hl := ct_lt h hi
      rw [ct_n hi, pk_us, pk_us] at E
      by_cases w : T2 0 ≤ i
      · have := ct_ge w hi
        have e0 : (0 : Int32) ≤ 0 := by decide
        refine Or.inl ⟨by omega, _, E.trans ((if_neg h).trans ((if_pos w).trans (if_pos e0))), i + 1, _, _, _, rfl, ct_s hi (by omega), fun j hj hp => ?_⟩
        have q : j ≠ k := by omega
        rw [pk_un q, pk_un q, pk_un q]
        exact hq j (by omega) hp
      · by_cases v : s2 k ≤ 0
        · refine Or.inl ⟨by omega, _, E.trans ((if_neg h).trans ((if_neg w).trans (if_pos v))), i + 1, _, _, _, rfl, ct_s hi (by omega), fun j hj hp => ?_⟩
          by_cases q : j = k
          · rw [q, pk_us, pk_us, pk_us, if_pos v, if_pos v]; exact ⟨rfl, rfl, rfl⟩
          · rw [pk_un q, pk_un q, pk_un q]
            exact hq j (by omega) hp
        · refine Or.inl ⟨by omega, _, E.trans ((if_neg h).trans ((if_neg w).trans (if_neg v))), i + 1, _, _, _, rfl, ct_s hi (by omega), fun j hj hp => ?_⟩
          by_cases q : j = k
          · rw [q, pk_us, pk_us, pk_us, if_neg v, if_neg v]; exact ⟨rfl, rfl, rfl⟩
          · rw [pk_un q, pk_un q, pk_un q]
            exact hq j (by omega) hp
theorem ux_TM_e (hn : n.toInt = n'.toInt) (q : ux_pv (ux_B tp n) = (s, z)) (h : ux_RM z T jT bT sT oT fT hT aT mT rT sgW sgS) (hl : (T 6).toInt = (s.2.1 : Int) ∧ (T 7).toInt = (s.2.2.1 : Int)) (e : (yr2, ac2, sn2, hm2, T2, j2, b2, s2, o2, f2, h2, a2, m2, r2, W2, S2, jaw2, brow2, stn2, fc2, fh2, ag2, fm2, se2) = m_Model_takeOver ac sn hm T jT bT sT oT fT hT aT mT rT sgW sgS jaw brow stn fc fh ag fm se) : ux_TM (ux_pv (ux_B tp n')) T2 o2 r2 W2 S2 jaw2 brow2 stn2 fc2 fh2 ag2 fm2 se2 yr2 ac2 sn2 := by
  have en : n = n' := Int32.toInt_inj.mp hn
  rw [← en, q]
  obtain ⟨jaw3, brow3, stn3, a1, a2'⟩ := q_tkG (T := T) (jT := jT) (bT := bT) (sT := sT) (oT := oT) (fT := fT) (hT := hT) (aT := aT) (mT := mT) (rT := rT) (sgW := sgW) (sgS := sgS) (jaw := jaw) (brow := brow) (stn := stn) (fc := fc) (fh := fh) (ag := ag) (fm := fm) (se := se) (ac := ac) (sn := sn) (hm := hm) (yr2 := 0) (T2 := m_Model_takeHalf12 T) (j2 := m_Model_takeHalf16 jT) (b2 := m_Model_takeHalf16 bT) (s2 := m_Model_takeHalf16 sT) (o2 := m_Model_takeHalf16 oT) (f2 := m_Model_takeHalf16 fT) (h2 := m_Model_takeHalf16 hT) (a2 := m_Model_takeHalf16 aT) (m2 := m_Model_takeHalf16 mT) (r2 := m_Model_takeHalf16 rT) (W2 := m_Model_takeHalf1400 sgW) (S2 := m_Model_takeHalf1400 sgS) _ rfl
  obtain ⟨fc3, fh3, ag3, fm3, se3, b1, b2'⟩ := q_tkP (T := T) (jT := jT) (bT := bT) (sT := sT) (oT := oT) (fT := fT) (hT := hT) (aT := aT) (mT := mT) (rT := rT) (sgW := sgW) (sgS := sgS) (jaw := jaw) (brow := brow) (stn := stn) (jaw1 := jaw3) (brow1 := brow3) (stn1 := stn3) (fc := fc) (fh := fh) (ag := ag) (fm := fm) (se := se) (ac := ac) (sn := sn) (hm := hm) (yr2 := 0) (T2 := m_Model_takeHalf12 T) (j2 := m_Model_takeHalf16 jT) (b2 := m_Model_takeHalf16 bT) (s2 := m_Model_takeHalf16 sT) (o2 := m_Model_takeHalf16 oT) (f2 := m_Model_takeHalf16 fT) (h2 := m_Model_takeHalf16 hT) (a2 := m_Model_takeHalf16 aT) (m2 := m_Model_takeHalf16 mT) (r2 := m_Model_takeHalf16 rT) (W2 := m_Model_takeHalf1400 sgW) (S2 := m_Model_takeHalf1400 sgS) _ rfl
  have eo : m_Model_takeOver ac sn hm T jT bT sT oT fT hT aT mT rT sgW sgS jaw brow stn fc fh ag fm se = m_Model_takeOver_k91 ac sn hm T jT bT sT oT fT hT aT mT rT sgW sgS jaw brow stn fc fh ag fm se (0, ac, sn, hm, 0, m_Model_takeHalf12 T, m_Model_takeHalf16 jT, m_Model_takeHalf16 bT, m_Model_takeHalf16 sT, m_Model_takeHalf16 oT, m_Model_takeHalf16 fT, m_Model_takeHalf16 hT, m_Model_takeHalf16 aT, m_Model_takeHalf16 mT, m_Model_takeHalf16 rT, m_Model_takeHalf1400 sgW, m_Model_takeHalf1400 sgS, jaw, brow, stn, fc, fh, ag, fm, se) := rfl
  rw [eo, a1, b1] at e
  simp only [Prod.mk.injEq] at e
  obtain ⟨rfl, rfl, rfl, rfl, rfl, rfl, rfl, rfl, rfl, rfl, rfl, rfl, rfl, rfl, rfl, rfl, rfl, rfl, rfl, rfl, rfl, rfl, rfl, rfl⟩ := e
  obtain ⟨h1, h2, h3, h4, ⟨h5, h5d⟩, h6, h6d⟩ := h
  have t0 := q_half12 T 0 (by decide)
  have t1 := q_half12 T 1 (by decide)
  have t2 := q_half12 T 2 (by decide)
  have t3 := q_half12 T 3 (by decide)
  have t4 := q_half12 T 4 (by decide)
  have t5 := q_half12 T 5 (by decide)
  refine ⟨by rw [t0]; exact hl.1, by rw [t1]; exact hl.2, rfl, rfl, rfl, fun k hk hg => ?_, fun k hk hg => ?_, by rw [t2]; exact h3.1, fun k hk hg => ?_, by rw [t3]; exact h4, ⟨by rw [t4]; exact h5.1, fun k hk hg => ?_, ?_⟩, by rw [t5]; exact h6.1, fun k hk hg => ?_, ?_⟩
  · obtain ⟨c1, c2, c3⟩ := a2' k hk hg
    rw [t0] at hg
    obtain ⟨d1, d2, d3⟩ := h1 k hg
    rw [q_half16 sT k hk, d3] at c1 c2 c3
    rw [q_half16 jT k hk, d1] at c2
    rw [q_half16 bT k hk, d2] at c3
    exact ⟨c1, c2, c3⟩
  · obtain ⟨c1, c2, c3, c4, c5⟩ := b2' k hk hg
    rw [t1] at hg
    obtain ⟨d1, d2, d3, d4, d5⟩ := h2 k hg
    exact ⟨by rw [q_half16 oT k hk]; exact d1, by rw [c1, q_half16 fT k hk]; exact d2, by rw [c2, q_half16 hT k hk]; exact d3, by rw [c3, q_half16 aT k hk]; exact d4, by rw [c4, q_half16 mT k hk]; exact d5, c5⟩
  · rw [t2] at hg
    rw [q_half16 rT k hk]
    exact (h3.2.2.2 k hg).1
  · rw [t4] at hg
    rw [q_half1400 sgW k hk]
    exact h5.2 k hg
  · rw [t4]
    rcases h5d with w | w
    · exact Or.inl w
    · by_cases u : 700 < (T 10).toInt
      · exact Or.inr (Or.inl u)
      · exact Or.inr (Or.inr ((dep_c _ (fun j hj => q_half1400 sgW j (by have : j < (T 10).toInt.toNat := hj; omega))).trans w))
  · rw [t5] at hg
    rw [q_half1400 sgS k hk]
    exact h6.2 k hg
  · rw [t5]
    rcases h6d with w | w
    · exact Or.inl w
    · by_cases u : 700 < (T 11).toInt
      · exact Or.inr (Or.inl u)
      · exact Or.inr (Or.inr ((dep_c _ (fun j hj => q_half1400 sgS j (by have : j < (T 11).toInt.toNat := hj; omega))).trans w))
end UXTM
