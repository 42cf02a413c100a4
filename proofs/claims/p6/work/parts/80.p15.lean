/-! a text taken over by both -/
def XM_tower (o : OB) (q : OS) (p1 : Int32) (cv : Int) (r' : Int32) (q' : OS) : Prop :=
  tv (q' 0) ∧ wf (q' 3) (q' 0 4) ∧ wf (q' 4) (q' 0 5) ∧ (cv = 0 → r'.toInt = 0 → ux_TM (ux_pv (ux_Bt o.2.1 p1.toInt)) (q' 0) (q' 1) (q' 2) (q' 3) (q' 4) (q' 5) (q' 6) (q' 7) (q' 8) (q' 9) (q' 10) (q' 11) (q' 12) (q' 22 0) (q' 22 1) (q' 22 2)) ∧ (cv ≠ 0 ∨ r'.toInt ≠ 0 → kq q q') ∧ q' 13 = q 13 ∧ q' 14 = q 14 ∧ q' 15 = q 15 ∧ q' 16 = q 16 ∧ q' 17 = q 17 ∧ q' 18 = q 18 ∧ q' 19 = q 19 ∧ q' 20 = q 20 ∧ q' 21 = q 21 ∧ q' 22 3 = q 22 3 ∧ q' 22 4 = q 22 4
section UXP15
variable {q q' : OS} {G P yr ac sz ob rs ce wl sl ik kG kP kyr kac ksz r r' c' p1 p2 p3 G2 P2 yr2 ac2 sz2 ob2 rs2 ce2 wl2 sl2 ik2 pG0 pP0 pG pP : Int32} {jw br st ag fm se rows who beh sjw rain wit sit kjw kbr kst kag kfm kse krows kwho kbeh ksjw jw2 br2 st2 ag2 fm2 se2 rain2 wit2 sit2 pj pb ps pa pf pse pj0 pb0 ps0 pa0 pf0 pse0 : Nat → Int32} {o o' : OB} {cv : Int} {V : Nat → Nat → Int32} {n m : Nat}
theorem GQ_GP (h : GQ q G P yr jw br st ag fm se ac rows sz who beh sjw ob rs ce wl sl rain wit sit ik kG kP kyr kjw kbr kst kag kfm kse kac krows ksz kwho kbeh ksjw) : q 0 0 = G ∧ q 0 1 = P := by
  obtain ⟨n, m, ⟨hG, hP, -⟩, -⟩ := h
  exact ⟨hG, hP⟩
theorem le0_i {x : Int32} (h : iv x 0 99) : x ≤ 0 ↔ x = 0 := by
  have e0 : (0 : Int32).toInt = 0 := rfl
  constructor
  · intro w; have := le_i w; exact Int32.toInt_inj.mp (by have := h.1; omega)
  · intro w; rw [w]; exact Int32.le_iff_toInt_le.mpr (Int.le_refl _)
/-- both sides behind a text that is right -/
theorem sq_new {t : ((Nat × Nat) × Nat × Nat × Nat × Nat × Nat × Nat) × PV} (hG : ux_TG t pj pb ps pa pf pse rain2 wit2 sit2 ob2 pG pP rs2 ce2 wl2 sl2 jw2 br2 st2 ag2 fm2 se2 G2 P2 yr2 ac2 sz2)
    (hM : ux_TM t (q' 0) (q' 1) (q' 2) (q' 3) (q' 4) (q' 5) (q' 6) (q' 7) (q' 8) (q' 9) (q' 10) (q' 11) (q' 12) (q' 22 0) (q' 22 1) (q' 22 2)) (hW : wf (q' 3) (q' 0 4)) (hS : wf (q' 4) (q' 0 5)) (ht : tv (q' 0)) :
    ∃ n m : Nat, sq_A n m G2 P2 jw2 br2 st2 ag2 fm2 se2 (q' 0) (q' 5) (q' 6) (q' 7) (q' 8) (q' 9) (q' 10) (q' 11) (q' 12) ∧ sq_L m ob2 ce2 wl2 sl2 wit2 sit2 (q' 0) (q' 1) (q' 3) (q' 4) ∧ wl2.toInt ≤ 700 ∧ sl2.toInt ≤ 700 ∧ sq_R rs2 rain2 (q' 0) (q' 2) ∧ yr2 = 0 ∧ q' 22 0 = 0 ∧ ac2 = 0 ∧ q' 22 1 = 0 ∧ sz2 = 0 ∧ q' 22 2 = 0 := by
  obtain ⟨⟨⟨⟨g0, g8, p0, p8, hg, hq, hb⟩, ⟨rr1, rr2, rr3, rr4⟩, ⟨ce1, -⟩, ⟨kw1, kw2⟩, ⟨ks1, ks2⟩⟩, hGt, hPt⟩, cj, cs, rfl, rfl, hyr, rfl, rfl⟩ := hG
  obtain ⟨t0, t1, y0, a0, s0, mg, mp, t2, mr, t3, ⟨t4, w4, d4⟩, t5, w5, d5⟩ := hM
  have eG : q' 0 0 = G2 := Int32.toInt_inj.mp (by omega)
  have eP : q' 0 1 = P2 := Int32.toInt_inj.mp (by omega)
  have v4 := ht.2.2.2.1.2
  have v5 := ht.2.2.2.2.2
  have e4 : q' 0 4 = wl2 := Int32.toInt_inj.mp (by omega)
  have e5 : q' 0 5 = sl2 := Int32.toInt_inj.mp (by omega)
  have em : (-1 : Int32).toInt = -1 := rfl
  have i0 : iv (0 : Int32) 0 9 := iv_lit (0 : Int32) (by decide)
  refine ⟨G2.toInt.toNat, P2.toInt.toNat, ⟨eG, eP, by omega, by omega, by omega, by omega, fun k hk => ?_, fun k hk => ?_, fun k hk => ?_, fun k hk => ?_, fun k hk => ?_, fun y z hy hz n1 n2 => ?_⟩, ⟨t3.trans ce1.symm, e4, e5, ?_, by omega, fun k hk => ?_, by rw [← e4]; exact hW, fun hn => ?_, by omega, fun k hk => ?_, by rw [← e5]; exact hS, fun hn => ?_⟩, by omega, by omega, ⟨t2.trans rr1.symm, ⟨rr2, rr3⟩, fun k hk => ?_⟩, ?_, y0, rfl, a0, rfl, s0⟩
  · obtain ⟨q1, q2, q3, q4, q5, q6⟩ := hg k hk
    obtain ⟨m1, m2, m3⟩ := mg k (by omega) (by omega)
    rw [(cj k (by omega)).1, (cj k (by omega)).2, (cs k (by omega)).1, q4, q5, q6, m1, m2, m3]
    by_cases w : t.2.1 2 k = 0
    · rw [if_pos w, if_pos w, if_pos ((le0_i q3).mpr w), if_pos ((le0_i q3).mpr w)]; exact ⟨rfl, rfl, rfl⟩
    · rw [if_neg w, if_neg w, if_neg (fun z => w ((le0_i q3).mp z)), if_neg (fun z => w ((le0_i q3).mp z))]; exact ⟨rfl, rfl, rfl⟩
  · obtain ⟨q1, q2, q3, q4, q5, q6, q7, q8, q9, q10⟩ := hq k hk
    obtain ⟨m1, m2, m3, m4, m5, m6⟩ := mp k (by omega) (by omega)
    rw [(cj (8 + k) (by omega)).1, (cj (8 + k) (by omega)).2, (cs k (by omega)).2.1, (cs k (by omega)).2.2.1, (cs k (by omega)).2.2.2, q6, q7, q8, q9, q10, m2, m3, m4, m5, m6]
    exact ⟨rfl, rfl, rfl, rfl, rfl⟩
  · obtain ⟨q1, q2, q3, q4, q5, q6⟩ := hg k (by omega)
    obtain ⟨m1, m2, m3⟩ := mg k (by omega) (by omega)
    rw [m1, m2, m3]
    by_cases w : t.2.1 2 k ≤ 0
    · rw [if_pos w, if_pos w]; exact ⟨i0, i0, q3⟩
    · rw [if_neg w, if_neg w]; exact ⟨q1, q2, q3⟩
  · obtain ⟨q1, q2, q3, q4, -⟩ := hq k (by omega)
    obtain ⟨m1, m2, m3, m4, m5, m6⟩ := mp k (by omega) (by omega)
    rw [m2, m3, m4, m5]
    exact ⟨q1, q2, q3, q4.1, by have := q4.2; omega⟩
  · obtain ⟨m1, m2, m3, m4, m5, m6⟩ := mp k (by omega) (by omega)
    rw [m6]; exact ⟨by omega, by omega⟩
  · obtain ⟨m1, m2, m3, m4, m5, m6⟩ := mp y (by omega) (by omega)
    exact absurd m6 n1
  · refine bs_w hb (fun g hg8 => ?_)
    constructor
    · rintro ⟨a, b⟩
      obtain ⟨m1, -⟩ := mp g hg8 (by omega)
      exact ⟨by omega, m1.symm.trans b⟩
    · rintro ⟨a, b⟩
      obtain ⟨m1, -⟩ := mp g hg8 (by omega)
      exact ⟨by omega, m1.trans b⟩
  · obtain ⟨y, y1, y2⟩ := kw2 k hk
    have e : y = q' 3 k := Int32.toInt_inj.mp (y1.trans (w4 k (by omega) (by omega)).symm)
    rw [← e]; exact y2
  · rcases d4 with w | w | w
    · exact absurd (Int32.toInt_inj.mp (show wl2.toInt = (0 : Int32).toInt by rw [← e4]; exact w)) hn
    · omega
    · rw [← e4]; exact w
  · obtain ⟨y, y1, y2⟩ := ks2 k hk
    have e : y = q' 4 k := Int32.toInt_inj.mp (y1.trans (w5 k (by omega) (by omega)).symm)
    rw [← e]; exact y2
  · rcases d5 with w | w | w
    · exact absurd (Int32.toInt_inj.mp (show sl2.toInt = (0 : Int32).toInt by rw [← e5]; exact w)) hn
    · omega
    · rw [← e5]; exact w
  · rw [(rr4 k hk).1]
    exact (mr k (by omega) (by rw [t2, ← rr1]; exact hk)).symm
  · exact Int32.toInt_inj.mp hyr
theorem z_tower (h : GQ q G P yr jw br st ag fm se ac rows sz who beh sjw ob rs ce wl sl rain wit sit ik kG kP kyr kjw kbr kst kag kfm kse kac krows ksz kwho kbeh ksjw) (hp0 : 0 ≤ p1.toInt) (hpt : p1.toInt ≤ o.1) (hki : iv ik 0 1) (e4 : (r.toInt ≠ 0 ∧ ik2.toInt = ik.toInt) ∨ (r.toInt = 0 ∧ ik2.toInt = 0))
    (e5 : r.toInt = 0 → ux_TG (ux_pv (ux_Bt o.2.1 p1.toInt)) pj pb ps pa pf pse rain2 wit2 sit2 ob2 pG pP rs2 ce2 wl2 sl2 jw2 br2 st2 ag2 fm2 se2 G2 P2 yr2 ac2 sz2)
    (e6 : r.toInt ≠ 0 → (pj, pb, ps, pa, pf, pse, rain2, wit2, sit2, ob2, pG, pP, rs2, ce2, wl2, sl2, jw2, br2, st2, ag2, fm2, se2, G2, P2, yr2, ac2, sz2) = (pj0, pb0, ps0, pa0, pf0, pse0, rain, wit, sit, ob, pG0, pP0, rs, ce, wl, sl, jw, br, st, ag, fm, se, G, P, yr, ac, sz))
    (hr : r.toInt = ((ux_tw (ux_Bt o.2.1 p1.toInt)).1 : Int))
    (ht : ((p1.toInt < 0 ∨ o.1 < p1.toInt) ∧ cv = 1 ∧ o' = o) ∨ (0 ≤ p1.toInt ∧ p1.toInt ≤ o.1 ∧ cv = 0 ∧ r'.toInt = ((ux_tw (ux_Bt o.2.1 p1.toInt)).1 : Int) ∧ o' = ux_to o p1.toInt))
    (hx : XM_tower o q p1 cv r' q') : GQ q' G2 P2 yr2 jw2 br2 st2 ag2 fm2 se2 ac2 rows sz2 who beh sjw ob2 rs2 ce2 wl2 sl2 rain2 wit2 sit2 ik2 kG kP kyr kjw kbr kst kag kfm kse kac krows ksz kwho kbeh ksjw := by
  obtain ⟨x1, x2, x3, x4, x5, f13, f14, f15, f16, f17, f18, f19, f20, f21, j3, j4⟩ := hx
  rcases ht with ⟨w, -, -⟩ | ⟨-, -, hcv, hr', -⟩
  · omega
  · by_cases h0 : r.toInt = 0
    · obtain ⟨n, m, c1, c2, c3, c4, c5, c6, c7, c8, c9, c10, c11⟩ := sq_new (e5 h0) (x4 hcv (by omega)) x2 x3 x1
      have hik : ik2 = 0 := Int32.toInt_inj.mp (e4.elim (fun z => absurd h0 z.1) (fun z => z.2))
      have e0 : (0 : Int32).toInt = 0 := rfl
      subst c6 c8 c10
      exact ⟨n, m, c1, c7.symm, ⟨by decide, by decide⟩, c9.symm, ⟨⟨by decide, by decide⟩, fun a ha => (z0_lt ha).elim⟩, ⟨c11.symm, ⟨by decide, by decide⟩, fun a ha => (z0_lt ha).elim⟩, c2, c3, c4, c5, fun w => absurd hik w⟩
    · have e := e6 h0
      simp only [Prod.mk.injEq] at e
      obtain ⟨-, -, -, -, -, -, rfl, rfl, rfl, rfl, -, -, rfl, rfl, rfl, rfl, rfl, rfl, rfl, rfl, rfl, rfl, rfl, rfl, rfl, rfl, rfl⟩ := e
      have hik : ik2 = ik := Int32.toInt_inj.mp (e4.elim (fun z => z.2) (fun z => absurd z.1 h0))
      subst hik
      exact GQ_kq h (x5 (Or.inr (by omega)))
/-! the first questions -/
theorem z_gargoyleA (h : GQ q G P yr jw br st ag fm se ac rows sz who beh sjw ob rs ce wl sl rain wit sit ik kG kP kyr kjw kbr kst kag kfm kse kac krows ksz kwho kbeh ksjw) (hpa : (0 ≤ p1.toInt ∧ p1.toInt < G.toInt) ∧ (0 ≤ p2.toInt ∧ p2.toInt ≤ 4)) (e : r = m_G_gargoyleA P jw br st fm se p1 p2) (hx : XM_gargoyle q p1 p2 c' r' q') : c' = 0 ∧ r = r' ∧ GQ q' G P yr jw br st ag fm se ac rows sz who beh sjw ob rs ce wl sl rain wit sit ik kG kP kyr kjw kbr kst kag kfm kse kac krows ksz kwho kbeh ksjw := by
  obtain ⟨ex, kk⟩ := hx
  have h' := h
  obtain ⟨n, m, hA, -⟩ := h'
  obtain ⟨b1, b2, b3, b4⟩ := sq_A_b hA
  have hG0 := hA.1; have hP0 := hA.2.1
  obtain ⟨-, -, -, -, -, -, hs, hp, -⟩ := hA
  obtain ⟨k, hk⟩ : ∃ k : Nat, p1.toInt = (k : Int) := ⟨p1.toInt.toNat, by omega⟩
  obtain ⟨s1, s2, s3⟩ := hs k (by omega)
  have h10 : ¬ ((1 : Int32) = 0) := by decide
  have E1 : m_G_gargoyleA P jw br st fm se p1 p2 = (if p2 = 0 then jw p1.toNatClampNeg else if p2 = 1 then br p1.toNatClampNeg else if p2 = 2 then st p1.toNatClampNeg else if p2 = 3 then m_State_sitterAt P se p1 else if p2 = 4 then m_State_familyBits P fm p1 else 0) := rfl
  have E2 : m_Model_gargoyle (q 0) (q 5) (q 6) (q 7) (q 11) (q 12) p1 p2 = (if m_Model_isStone (q 0) p1 = 0 then (0, 1) else if p2 = 0 then (q 5 p1.toNatClampNeg, 0) else if p2 = 1 then (q 6 p1.toNatClampNeg, 0) else if p2 = 2 then (q 7 p1.toNatClampNeg, 0) else if p2 = 3 then (m_Model_sitterOf (q 0) (q 12) p1, 0) else if p2 = 4 then (m_Model_familyOf (q 0) (q 11) p1, 0) else (0, 1)) := rfl
  rw [E1] at e
  rw [E2, q_isS hG0 b1, if_pos hpa.1, if_neg h10] at ex
  rw [ct_n hk] at e ex
  have fin : ∀ x : Int32, r = x → (r', c') = (x, (0 : Int32)) → c' = 0 ∧ r = r' ∧ GQ q' G P yr jw br st ag fm se ac rows sz who beh sjw ob rs ce wl sl rain wit sit ik kG kP kyr kjw kbr kst kag kfm kse kac krows ksz kwho kbeh ksjw := fun x a b => by
    simp only [Prod.mk.injEq] at b
    exact ⟨b.2, a.trans b.1.symm, GQ_kq h kk⟩
  by_cases g0 : p2 = 0
  · rw [if_pos g0] at e ex; exact fin _ e (by rw [s1]; exact ex)
  rw [if_neg g0] at e ex
  by_cases g1 : p2 = 1
  · rw [if_pos g1] at e ex; exact fin _ e (by rw [s2]; exact ex)
  rw [if_neg g1] at e ex
  by_cases g2 : p2 = 2
  · rw [if_pos g2] at e ex; exact fin _ e (by rw [s3]; exact ex)
  rw [if_neg g2] at e ex
  by_cases g3 : p2 = 3
  · rw [if_pos g3] at e ex; exact fin _ e (by rw [q_sit hP0 (fun z hz => (hp z hz).2.2.2.2)]; exact ex)
  rw [if_neg g3] at e ex
  have g4 : p2 = 4 := by
    have a0 : p2.toInt ≠ (0 : Int32).toInt := fun w => g0 (Int32.toInt_inj.mp w)
    have a1 : p2.toInt ≠ (1 : Int32).toInt := fun w => g1 (Int32.toInt_inj.mp w)
    have a2 : p2.toInt ≠ (2 : Int32).toInt := fun w => g2 (Int32.toInt_inj.mp w)
    have a3 : p2.toInt ≠ (3 : Int32).toInt := fun w => g3 (Int32.toInt_inj.mp w)
    have l0 : (0 : Int32).toInt = 0 := rfl
    have l1 : (1 : Int32).toInt = 1 := rfl
    have l2 : (2 : Int32).toInt = 2 := rfl
    have l3 : (3 : Int32).toInt = 3 := rfl
    have l4 : (4 : Int32).toInt = 4 := rfl
    exact Int32.toInt_inj.mp (by omega)
  rw [if_pos g4] at e ex
  exact fin _ e (by rw [q_fab hP0 (fun z hz => (hp z hz).2.2.2.1)]; exact ex)
theorem z_gargoyleX (h : GQ q G P yr jw br st ag fm se ac rows sz who beh sjw ob rs ce wl sl rain wit sit ik kG kP kyr kjw kbr kst kag kfm kse kac krows ksz kwho kbeh ksjw) (hpa : (p1.toInt < 0 ∨ G.toInt ≤ p1.toInt) ∨ (p2.toInt < 0 ∨ 4 < p2.toInt)) (hx : XM_gargoyle q p1 p2 c' r' q') : c' = 1 ∧ GQ q' G P yr jw br st ag fm se ac rows sz who beh sjw ob rs ce wl sl rain wit sit ik kG kP kyr kjw kbr kst kag kfm kse kac krows ksz kwho kbeh ksjw := by
  obtain ⟨ex, kk⟩ := hx
  have h' := h
  obtain ⟨n, m, hA, -⟩ := h'
  obtain ⟨b1, b2, b3, b4⟩ := sq_A_b hA
  have hG0 := hA.1
  have h10 : ¬ ((1 : Int32) = 0) := by decide
  refine ⟨?_, GQ_kq h kk⟩
  have E2 : m_Model_gargoyle (q 0) (q 5) (q 6) (q 7) (q 11) (q 12) p1 p2 = (if m_Model_isStone (q 0) p1 = 0 then (0, 1) else if p2 = 0 then (q 5 p1.toNatClampNeg, 0) else if p2 = 1 then (q 6 p1.toNatClampNeg, 0) else if p2 = 2 then (q 7 p1.toNatClampNeg, 0) else if p2 = 3 then (m_Model_sitterOf (q 0) (q 12) p1, 0) else if p2 = 4 then (m_Model_familyOf (q 0) (q 11) p1, 0) else (0, 1)) := rfl
  rw [E2, q_isS hG0 b1] at ex
  by_cases g : 0 ≤ p1.toInt ∧ p1.toInt < G.toInt
  · have ne : ∀ z : Int32, 0 ≤ z.toInt → z.toInt ≤ 4 → ¬ p2 = z := fun z z0 z4 w => by rw [w] at hpa; omega
    rw [if_pos g, if_neg h10, if_neg (ne 0 (by decide) (by decide)), if_neg (ne 1 (by decide) (by decide)), if_neg (ne 2 (by decide) (by decide)), if_neg (ne 3 (by decide) (by decide)), if_neg (ne 4 (by decide) (by decide))] at ex
    exact congrArg Prod.snd ex
  · rw [if_neg g, if_pos rfl] at ex
    exact congrArg Prod.snd ex
end UXP15
