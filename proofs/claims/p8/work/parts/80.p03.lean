/-! rules: both codes give the same -/
theorem jn_PLUS (a b : Int32) : m_Rule_join (-6) a b = m_Model_reckon (-20) a b := by
  have e1 : m_Rule_join (-6) a b = a + b := (if_neg (by decide)).trans ((if_neg (by decide)).trans ((if_pos rfl).trans (rfl)))
  have e2 : m_Model_reckon (-20) a b = a + b := (if_neg (by decide)).trans ((if_neg (by decide)).trans ((if_neg (by decide)).trans ((if_neg (by decide)).trans ((if_neg (by decide)).trans ((if_neg (by decide)).trans ((if_pos rfl).trans (rfl)))))))
  rw [e1, e2]
theorem jn_MINUS (a b : Int32) : m_Rule_join (-7) a b = m_Model_reckon (-21) a b := by
  have e1 : m_Rule_join (-7) a b = a - b := (if_neg (by decide)).trans ((if_pos rfl).trans (rfl))
  have e2 : m_Model_reckon (-21) a b = a - b := (if_neg (by decide)).trans ((if_neg (by decide)).trans ((if_neg (by decide)).trans ((if_neg (by decide)).trans ((if_neg (by decide)).trans ((if_pos rfl).trans (rfl))))))
  rw [e1, e2]
theorem jn_TIMES (a b : Int32) : m_Rule_join (-8) a b = m_Model_reckon (-22) a b := by
  have e1 : m_Rule_join (-8) a b = a * b := (if_pos rfl).trans (rfl)
  have e2 : m_Model_reckon (-22) a b = a * b := (if_neg (by decide)).trans ((if_neg (by decide)).trans ((if_neg (by decide)).trans ((if_neg (by decide)).trans ((if_pos rfl).trans (rfl)))))
  rw [e1, e2]
theorem jn_OVER (a b : Int32) : m_Rule_join (-9) a b = m_Model_reckon (-23) a b := by
  have e1 : m_Rule_join (-9) a b = (if b = 0 then 0 else a / b) := (if_neg (by decide)).trans ((if_neg (by decide)).trans ((if_neg (by decide)).trans ((if_neg (by decide)).trans ((if_neg (by decide)).trans ((if_neg (by decide)).trans ((if_neg (by decide)).trans ((if_neg (by decide)).trans (rfl))))))))
  have e2 : m_Model_reckon (-23) a b = (if b = 0 then 0 else a / b) := (if_neg (by decide)).trans ((if_neg (by decide)).trans ((if_neg (by decide)).trans ((if_pos rfl).trans (rfl))))
  rw [e1, e2]
theorem jn_LESS (a b : Int32) : m_Rule_join (-4) a b = m_Model_reckon (-24) a b := by
  have e1 : m_Rule_join (-4) a b = (if b ≤ a then 0 else 1) := (if_neg (by decide)).trans ((if_neg (by decide)).trans ((if_neg (by decide)).trans ((if_neg (by decide)).trans ((if_pos rfl).trans (rfl)))))
  have e2 : m_Model_reckon (-24) a b = (if b ≤ a then 0 else 1) := (if_neg (by decide)).trans ((if_neg (by decide)).trans ((if_pos rfl).trans (rfl)))
  rw [e1, e2]
theorem jn_SAME (a b : Int32) : m_Rule_join (-5) a b = m_Model_reckon (-25) a b := by
  have e1 : m_Rule_join (-5) a b = (if a = b then 1 else 0) := (if_neg (by decide)).trans ((if_neg (by decide)).trans ((if_neg (by decide)).trans ((if_pos rfl).trans (rfl))))
  have e2 : m_Model_reckon (-25) a b = (if a = b then 1 else 0) := (if_neg (by decide)).trans ((if_pos rfl).trans (rfl))
  rw [e1, e2]
theorem jn_AND (a b : Int32) : m_Rule_join (-2) a b = m_Model_reckon (-26) a b := by
  have e1 : m_Rule_join (-2) a b = (if a = 0 then 0 else if b = 0 then 0 else 1) := (if_neg (by decide)).trans ((if_neg (by decide)).trans ((if_neg (by decide)).trans ((if_neg (by decide)).trans ((if_neg (by decide)).trans ((if_neg (by decide)).trans ((if_pos rfl).trans (rfl)))))))
  have e2 : m_Model_reckon (-26) a b = (if a = 0 then 0 else if b = 0 then 0 else 1) := (if_pos rfl).trans (rfl)
  rw [e1, e2]
theorem jn_OR (a b : Int32) : m_Rule_join (-1) a b = m_Model_reckon (-27) a b := by
  have e1 : m_Rule_join (-1) a b = (if a = 0 then (if b = 0 then 0 else 1) else 1) := (if_neg (by decide)).trans ((if_neg (by decide)).trans ((if_neg (by decide)).trans ((if_neg (by decide)).trans ((if_neg (by decide)).trans ((if_neg (by decide)).trans ((if_neg (by decide)).trans ((if_pos rfl).trans (rfl))))))))
  have e2 : m_Model_reckon (-27) a b = (if a = 0 then (if b = 0 then 0 else 1) else 1) := (if_neg (by decide)).trans ((if_neg (by decide)).trans ((if_neg (by decide)).trans ((if_neg (by decide)).trans ((if_neg (by decide)).trans ((if_neg (by decide)).trans ((if_neg (by decide)).trans (rfl)))))))
  rw [e1, e2]
theorem jn_all {x y a b : Int32} (h : opn x.toInt y.toInt) : m_Rule_join x a b = m_Model_reckon y a b := by
  rcases h with ⟨h1, h2⟩ | ⟨h1, h2⟩ | ⟨h1, h2⟩ | ⟨h1, h2⟩ | ⟨h1, h2⟩ | ⟨h1, h2⟩ | ⟨h1, h2⟩ | ⟨h1, h2⟩
  · rw [show x = (-6 : Int32) from Int32.toInt_inj.mp h1, show y = (-20 : Int32) from Int32.toInt_inj.mp h2]; exact jn_PLUS a b
  · rw [show x = (-7 : Int32) from Int32.toInt_inj.mp h1, show y = (-21 : Int32) from Int32.toInt_inj.mp h2]; exact jn_MINUS a b
  · rw [show x = (-8 : Int32) from Int32.toInt_inj.mp h1, show y = (-22 : Int32) from Int32.toInt_inj.mp h2]; exact jn_TIMES a b
  · rw [show x = (-9 : Int32) from Int32.toInt_inj.mp h1, show y = (-23 : Int32) from Int32.toInt_inj.mp h2]; exact jn_OVER a b
  · rw [show x = (-4 : Int32) from Int32.toInt_inj.mp h1, show y = (-24 : Int32) from Int32.toInt_inj.mp h2]; exact jn_LESS a b
  · rw [show x = (-5 : Int32) from Int32.toInt_inj.mp h1, show y = (-25 : Int32) from Int32.toInt_inj.mp h2]; exact jn_SAME a b
  · rw [show x = (-2 : Int32) from Int32.toInt_inj.mp h1, show y = (-26 : Int32) from Int32.toInt_inj.mp h2]; exact jn_AND a b
  · rw [show x = (-1 : Int32) from Int32.toInt_inj.mp h1, show y = (-27 : Int32) from Int32.toInt_inj.mp h2]; exact jn_OR a b
theorem opn_r {x y : Int} (h : opn x y) : x < 0 ∧ x ≠ -3 ∧ y ≤ -20 ∧ y ≠ -28 := by
  unfold opn at h; omega
section UXR
variable {len : Int32} {items V A w w0 sg st st0 : Nat → Int32} {vm : Nat → Nat} {J : Nat}
theorem q_wor1 {k : Nat} {top n i : Int32} (hk : (k : Int) < len.toInt) (hC : cen J vm (items k) (sg k)) (hV : ∀ j : Nat, j < J → V (vm j) = A j) (hok : okat (sg k) (dep sg k)) (ht : top.toInt = dep sg k) (hn : n.toInt = dep sg k) (hi : i.toInt = (k : Int)) (hw : ∀ j : Nat, (j : Int) < dep sg k → w j = st j) :
    ∃ (top' n' : Int32) (w' st' : Nat → Int32), m_Rule_worth_b5 len items V w0 top i w = .inl (top', i + 1, w') ∧ m_Model_valueNow_b5 A st0 sg len n i st = .inl (n', i + 1, st') ∧ top'.toInt = dep sg (k + 1) ∧ n'.toInt = dep sg (k + 1) ∧ ∀ j : Nat, (j : Int) < dep sg (k + 1) → w' j = st' j := by
  have e1 : (1 : Int32).toInt = 1 := rfl
  have em1 : (-1 : Int32).toInt = -1 := rfl
  have e0 : (0 : Int32).toInt = 0 := rfl
  have e32 : (32 : Int32).toInt = 32 := rfl
  have e10 : (10000 : Int32).toInt = 10000 := rfl
  have e20 : (-20 : Int32).toInt = -20 := rfl
  have e28 : (-28 : Int32).toInt = -28 := rfl
  have e3 : (-3 : Int32).toInt = -3 := rfl
  have en := ct_n hi
  have h1 : ¬ len ≤ i := fun q => by have := le_i q; omega
  have hdd : dep sg (k + 1) = dep sg k + dlt (sg k) := rfl
  have htn : top = n := Int32.toInt_inj.mp (by rw [ht, hn])
  subst htn
  obtain ⟨o1, o2, o3⟩ := hok
  rcases hC with ⟨y0, y9, hx⟩ | ⟨j, hj, hj4, hvm, hy, hx⟩ | ⟨hx, hy⟩ | ho
  · -- a number
    have d1 : dlt (sg k) = 1 := if_pos (by omega)
    obtain ⟨-, d0, d32⟩ := o1 (by omega)
    have tn : top.toNatClampNeg = (dep sg k).toNat := by show top.toInt.toNat = _; rw [ht]
    refine ⟨top + 1, top + 1, upd w top.toNatClampNeg (sg k), upd st top.toNatClampNeg (sg k), ?_, ?_, ?_, ?_, ?_⟩
    · refine (if_neg h1).trans ?_
      show (if items i.toNatClampNeg < 0 then _ else _) = _
      rw [en, hx]
      refine (if_neg (fun q => by have := lt_i q; omega)).trans ?_
      refine (if_neg (fun q => by have := le_i q; omega)).trans ?_
      exact (if_neg (fun q => by have := le_i q; omega)).trans rfl
    · refine (if_neg h1).trans ?_
      show (if sg i.toNatClampNeg ≤ -20 then _ else _) = _
      rw [en]
      refine (if_neg (fun q => by have := le_i q; omega)).trans ?_
      exact (if_neg (fun q => by have := lt_i q; omega)).trans rfl
    · rw [iv_tadd (by omega) (by omega)]; omega
    · rw [iv_tadd (by omega) (by omega)]; omega
    · intro j hj
      by_cases q : j = top.toNatClampNeg
      · rw [q, pk_us, pk_us]
      · rw [pk_un q, pk_un q]; exact hw j (by omega)
  · -- a value
    have d1 : dlt (sg k) = 1 := if_pos (by omega)
    obtain ⟨-, d0, d32⟩ := o1 (by omega)
    have tn : top.toNatClampNeg = (dep sg k).toNat := by show top.toInt.toNat = _; rw [ht]
    have c1 : (items k - 10000).toNatClampNeg = vm j := by
      show (items k - 10000).toInt.toNat = _
      rw [iv_tsub (by omega) (by omega)]; omega
    have c2 : ((-1 : Int32) - sg k).toNatClampNeg = j := by
      show ((-1 : Int32) - sg k).toInt.toNat = _
      rw [iv_tsub (by omega) (by omega)]; omega
    refine ⟨top + 1, top + 1, upd w top.toNatClampNeg (V (vm j)), upd st top.toNatClampNeg (A j), ?_, ?_, ?_, ?_, ?_⟩
    · refine (if_neg h1).trans ?_
      show (if items i.toNatClampNeg < 0 then _ else _) = _
      rw [en]
      refine (if_neg (fun q => by have := lt_i q; omega)).trans ?_
      refine (if_neg (fun q => by have := le_i q; omega)).trans ?_
      refine (if_pos (show (10000 : Int32) ≤ items k from Int32.le_iff_toInt_le.mpr (by omega))).trans ?_
      rw [← c1]; rfl
    · refine (if_neg h1).trans ?_
      show (if sg i.toNatClampNeg ≤ -20 then _ else _) = _
      rw [en]
      refine (if_neg (fun q => by have := le_i q; omega)).trans ?_
      refine (if_pos (show sg k < 0 from Int32.lt_iff_toInt_lt.mpr (by omega))).trans ?_
      rw [← c2]; rfl
    · rw [iv_tadd (by omega) (by omega)]; omega
    · rw [iv_tadd (by omega) (by omega)]; omega
    · intro z hz
      by_cases q : z = top.toNatClampNeg
      · rw [q, pk_us, pk_us]; exact hV j hj
      · rw [pk_un q, pk_un q]; exact hw z (by omega)
  · -- not
    have d1 : dlt (sg k) = 0 := (if_neg (by omega)).trans (if_pos hy)
    obtain ⟨d0, d32⟩ := o2 hy
    obtain ⟨u, eu⟩ : ∃ z : Int32, z = top - 1 := ⟨_, rfl⟩
    have hu : u.toInt = dep sg k - 1 := by rw [eu, iv_tsub (by omega) (by omega), e1]; omega
    have t1 : u.toNatClampNeg = (dep sg k - 1).toNat := by show u.toInt.toNat = _; rw [hu]
    have hq : w u.toNatClampNeg = st u.toNatClampNeg := hw _ (by rw [t1]; omega)
    have hd1 : top.toInt = dep sg (k + 1) := by rw [hdd, d1]; omega
    refine ⟨top, top, upd w u.toNatClampNeg (if st u.toNatClampNeg = 0 then 1 else 0), upd st u.toNatClampNeg (if st u.toNatClampNeg = 0 then 1 else 0), ?_, ?_, hd1, hd1, ?_⟩
    · have c1 : items k < 0 := Int32.lt_iff_toInt_lt.mpr (by omega)
      have c2 : items k = -3 := Int32.toInt_inj.mp (by omega)
      have c3 : ¬ top ≤ 0 := fun q => by have := le_i q; omega
      clear t1 hu hd1
      subst eu
      refine (if_neg h1).trans ?_
      show (if items i.toNatClampNeg < 0 then _ else _) = _
      rw [en]
      refine (if_pos c1).trans ((if_pos c2).trans ((if_neg c3).trans ?_))
      show (if w (top - 1).toNatClampNeg = 0 then _ else _) = _
      rw [hq]
      by_cases z : st (top - 1).toNatClampNeg = 0
      · rw [if_pos z, if_pos z]; rfl
      · rw [if_neg z, if_neg z]; rfl
    · have c1 : sg k ≤ -20 := Int32.le_iff_toInt_le.mpr (by omega)
      have c2 : sg k = -28 := Int32.toInt_inj.mp (by omega)
      clear t1 hu hd1 hq
      subst eu
      refine (if_neg h1).trans ?_
      show (if sg i.toNatClampNeg ≤ -20 then _ else _) = _
      rw [en]
      refine (if_pos c1).trans ((if_pos c2).trans ?_)
      show (if st (top - 1).toNatClampNeg = 0 then _ else _) = _
      by_cases z : st (top - 1).toNatClampNeg = 0
      · rw [if_pos z, if_pos z]; rfl
      · rw [if_neg z, if_neg z]; rfl
    · intro z hz
      by_cases q : z = u.toNatClampNeg
      · rw [q, pk_us, pk_us]
      · rw [pk_un q, pk_un q]
        refine hw z ?_
        rw [hdd, d1] at hz
        omega
  · -- two parts joined
    obtain ⟨r1, r2, r3, r4⟩ := opn_r ho
    have d1 : dlt (sg k) = -1 := (if_neg (by omega)).trans (if_neg r4)
    obtain ⟨d0, d32⟩ := o3 r3 r4
    obtain ⟨u, eu⟩ : ∃ z : Int32, z = top + (-1) := ⟨_, rfl⟩
    obtain ⟨v, ev⟩ : ∃ z : Int32, z = u - 1 := ⟨_, rfl⟩
    have hu : u.toInt = dep sg k - 1 := by rw [eu, iv_tadd (by omega) (by omega), em1]; omega
    have hv : v.toInt = dep sg k - 2 := by rw [ev, iv_tsub (by omega) (by omega), hu, e1]; omega
    have t1 : u.toNatClampNeg = (dep sg k - 1).toNat := by show u.toInt.toNat = _; rw [hu]
    have t2 : v.toNatClampNeg = (dep sg k - 2).toNat := by show v.toInt.toNat = _; rw [hv]
    have q1 : w u.toNatClampNeg = st u.toNatClampNeg := hw _ (by rw [t1]; omega)
    have q2 : w v.toNatClampNeg = st v.toNatClampNeg := hw _ (by rw [t2]; omega)
    have hd1 : u.toInt = dep sg (k + 1) := by rw [hdd, d1, hu]; omega
    refine ⟨u, u, upd w v.toNatClampNeg (m_Rule_join (items k) (w v.toNatClampNeg) (w u.toNatClampNeg)), upd st v.toNatClampNeg (m_Model_reckon (sg k) (st v.toNatClampNeg) (st u.toNatClampNeg)), ?_, ?_, hd1, hd1, ?_⟩
    · have c1 : items k < 0 := Int32.lt_iff_toInt_lt.mpr (by omega)
      have c2 : ¬ items k = -3 := fun q => by have := congrArg Int32.toInt q; omega
      have c3 : ¬ top ≤ 1 := fun q => by have := le_i q; omega
      clear q1 q2 t1 t2 hu hv hd1
      subst ev; subst eu
      refine (if_neg h1).trans ?_
      show (if items i.toNatClampNeg < 0 then _ else _) = _
      rw [en]
      exact (if_pos c1).trans ((if_neg c2).trans ((if_neg c3).trans rfl))
    · have c1 : sg k ≤ -20 := Int32.le_iff_toInt_le.mpr (by omega)
      have c2 : ¬ sg k = -28 := fun q => by have := congrArg Int32.toInt q; omega
      clear q1 q2 t1 t2 hu hv hd1
      subst ev; subst eu
      refine (if_neg h1).trans ?_
      show (if sg i.toNatClampNeg ≤ -20 then _ else _) = _
      rw [en]
      exact (if_pos c1).trans ((if_neg c2).trans rfl)
    · intro z hz
      by_cases q : z = v.toNatClampNeg
      · rw [q, pk_us, pk_us, q1, q2]; exact jn_all ho
      · rw [pk_un q, pk_un q]
        refine hw z ?_
        rw [hdd, d1] at hz
        omega
theorem q_wor (h0 : 0 ≤ len.toInt) (hC : ∀ k : Nat, (k : Int) < len.toInt → cen J vm (items k) (sg k)) (hV : ∀ j : Nat, j < J → V (vm j) = A j) (hw : wf sg len) (hd : dep sg len.toInt.toNat = 1) :
    (m_Rule_worth len items V w0).1 = (m_Model_valueNow A st0 sg len).1 := by
  unfold m_Rule_worth m_Rule_worth_k5 m_Model_valueNow m_Model_valueNow_k5
  have hr := iv_rng len
  refine uy_sim (α := Int32 × Int32 × (Nat → Int32)) (α' := Int32 × Int32 × (Nat → Int32)) len.toInt.toNat (fun k a a' => a.2.1 = a'.2.1 ∧ a.2.1.toInt = (k : Int) ∧ a.1.toInt = dep sg k ∧ a'.1.toInt = dep sg k ∧ ∀ j : Nat, (j : Int) < dep sg k → a.2.2 j = a'.2.2 j) (fun (x y : Int32 × (Nat → Int32)) => x.1 = y.1) ?_ ⟨rfl, rfl, rfl, rfl, fun j hj => by have : dep sg 0 = 0 := rfl; omega⟩
  rintro k ⟨top, i, w⟩ ⟨n, i', st⟩ hk ⟨hi, hc, ht, hn, hq⟩
  have hi : i = i' := hi
  have hc : i.toInt = (k : Int) := hc
  have ht : top.toInt = dep sg k := ht
  have hn : n.toInt = dep sg k := hn
  have hq : ∀ j : Nat, (j : Int) < dep sg k → w j = st j := hq
  subst hi
  by_cases h1 : len ≤ i
  · have hkk := ct_ge h1 hc
    have ek : k = len.toInt.toNat := by omega
    rw [ek, hd] at ht hn hq
    have e0 : (0 : Int32).toInt = 0 := rfl
    have e1 : (1 : Int32).toInt = 1 := rfl
    have et : top = 1 := Int32.toInt_inj.mp (by rw [ht]; rfl)
    subst et
    exact Or.inr ⟨_, _, (if_pos h1).trans (if_neg (show ¬ (1 : Int32) ≤ 0 from by decide)), if_pos h1, (show w ((1 : Int32) - 1).toNatClampNeg = st (0 : Int32).toNatClampNeg from hq 0 (by omega))⟩
  · have hl := ct_lt h1 hc
    obtain ⟨top', n', w', st', a1, a2, a3, a4, a5⟩ := q_wor1 (w0 := w0) (st0 := st0) hl (hC k hl) hV (hw k hl) ht hn hc hq
    exact Or.inl ⟨by omega, _, _, a1, a2, rfl, ct_s hc (by omega), a3, a4, a5⟩
end UXR
