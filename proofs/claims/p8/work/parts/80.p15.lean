/-! a text taken over by both -/
def XM_tower (o : OB) (q : OS) (p1 : Int32) (cv : Int) (r' : Int32) (q' : OS) : Prop :=
  tv (q' 0) ∧ wf (q' 3) (q' 0 4) ∧ wf (q' 4) (q' 0 5) ∧ (cv = 0 → r'.toInt = 0 → ux_TM (ux_pv (ux_Bt o.2.1 p1.toInt)) (q' 0) (q' 1) (q' 2) (q' 3) (q' 4) (q' 5) (q' 6) (q' 7) (q' 8) (q' 9) (q' 10) (q' 11) (q' 12) (q' 22 0) (q' 22 1) (q' 22 2)) ∧ (cv ≠ 0 ∨ r'.toInt ≠ 0 → kq q q') ∧ q' 13 = q 13 ∧ q' 14 = q 14 ∧ q' 15 = q 15 ∧ q' 16 = q 16 ∧ q' 17 = q 17 ∧ q' 18 = q 18 ∧ q' 19 = q 19 ∧ q' 20 = q 20 ∧ q' 21 = q 21 ∧ q' 22 3 = q 22 3 ∧ q' 22 4 = q 22 4
section UXP15
variable {q q' : OS} {G P yr ac sz ob rs ce wl sl ik kG kP kyr kac ksz r r' c' p1 p2 p3 G2 P2 yr2 ac2 sz2 ob2 rs2 ce2 wl2 sl2 ik2 pG0 pP0 pG pP : Int32} {jw br st ag fm se rows who beh sjw rain wit sit kjw kbr kst kag kfm kse krows kwho kbeh ksjw jw2 br2 st2 ag2 fm2 se2 rain2 wit2 sit2 pj pb ps pa pf pse pj0 pb0 ps0 pa0 pf0 pse0 : Nat → Int32} {o o' : OB} {cv : Int} {V : Nat → Nat → Int32} {n m : Nat}
theorem GQ_GP (h : GQ q G P yr jw br st ag fm se ac rows sz who beh sjw ob rs ce wl sl rain wit sit ik kG kP kyr kjw kbr kst kag kfm kse kac krows ksz kwho kbeh ksjw) : q 0 0 = G ∧ q 0 1 = P := by
  obtain ⟨n, m, ⟨hG, hP, -⟩, -⟩ := h
  exact ⟨hG, hP⟩
theorem le0_i {x : Int32} (h : iv x 0 99) : x ≤ 0 ↔ x = 0 := by
  have e0 : (0 : Int32).toInt = 0 := rfl
  constructor
  · intro w; have := le_i w; exact Int32.toInt_inj.mp (by have := h.1; omega)
  · intro w; rw [w]; exact Int32.le_iff_toInt_le.mpr (Int.le_refl _)
/-- both sides behind a text that is right -/
theorem sq_new {t : ((Nat × Nat) × Nat × Nat × Nat × Nat × Nat × Nat) × PV} (hG : ux_TG t pj pb ps pa pf pse rain2 wit2 sit2 ob2 pG pP rs2 ce2 wl2 sl2 jw2 br2 st2 ag2 fm2 se2 G2 P2 yr2 ac2 sz2)
    (hM : ux_TM t (q' 0) (q' 1) (q' 2) (q' 3) (q' 4) (q' 5) (q' 6) (q' 7) (q' 8) (q' 9) (q' 10) (q' 11) (q' 12) (q' 22 0) (q' 22 1) (q' 22 2)) (hW : wf (q' 3) (q' 0 4)) (hS : wf (q' 4) (q' 0 5)) (ht : tv (q' 0)) :
    ∃ n m : Nat, sq_A n m G2 P2 jw2 br2 st2 ag2 fm2 se2 (q' 0) (q' 5) (q' 6) (q' 7) (q' 8) (q' 9) (q' 10) (q' 11) (q' 12) ∧ sq_L m ob2 ce2 wl2 sl2 wit2 sit2 (q' 0) (q' 1) (q' 3) (q' 4) ∧ wl2.toInt ≤ 700 ∧ gqO m sl2 (q' 1) ∧ sq_R rs2 rain2 (q' 0) (q' 2) ∧ yr2 = 0 ∧ q' 22 0 = 0 ∧ ac2 = 0 ∧ q' 22 1 = 0 ∧ sz2 = 0 ∧ q' 22 2 = 0 := by
  obtain ⟨⟨⟨⟨g0, g8, p0, p8, hg, hq, hb⟩, ⟨rr1, rr2, rr3, rr4⟩, ⟨ce1, -⟩, ⟨kw1, kw2⟩, ⟨ks1, ks2⟩⟩, hGt, hPt⟩, cj, cs, rfl, rfl, hyr, rfl, rfl⟩ := hG
  obtain ⟨t0, t1, y0, a0, s0, mg, mp, t2, mr, t3, ⟨t4, w4, d4⟩, t5, w5, d5⟩ := hM
  have eG : q' 0 0 = G2 := Int32.toInt_inj.mp (by omega)
  have eP : q' 0 1 = P2 := Int32.toInt_inj.mp (by omega)
  have v4 := ht.2.2.2.1.2
  have v5 := ht.2.2.2.2.2
  have e4 : q' 0 4 = wl2 := Int32.toInt_inj.mp (by omega)
  have e5 : q' 0 5 = sl2 := Int32.toInt_inj.mp (by omega)
  have em : (-1 : Int32).toInt = -1 := rfl
  have i0 : iv (0 : Int32) 0 9 := iv_lit (0 : Int32) (by decide)
  refine ⟨G2.toInt.toNat, P2.toInt.toNat, ⟨eG, eP, by omega, by omega, by omega, by omega, fun k hk => ?_, fun k hk => ?_, fun k hk => ?_, fun k hk => ?_, fun k hk => ?_, fun y z hy hz n1 n2 => ?_⟩, ⟨t3.trans ce1.symm, e4, e5, ?_, by omega, fun k hk => ?_, by rw [← e4]; exact hW, fun hn => ?_, by omega, fun k hk => ?_, by rw [← e5]; exact hS, fun hn => ?_⟩, by omega, ⟨by omega, fun k hk => by
    obtain ⟨m1, -⟩ := mp k (by omega) (by omega)
    rw [m1]; exact (hq k (by omega)).2.2.2.2.1⟩, ⟨t2.trans rr1.symm, ⟨rr2, rr3⟩, fun k hk => ?_⟩, ?_, y0, rfl, a0, rfl, s0⟩
  · obtain ⟨q1, q2, q3, q4, q5, q6⟩ := hg k hk
    obtain ⟨m1, m2, m3⟩ := mg k (by omega) (by omega)
    rw [(cj k (by omega)).1, (cj k (by omega)).2, (cs k (by omega)).1, q4, q5, q6, m1, m2, m3]
    by_cases w : t.2.1 2 k = 0
    · rw [if_pos w, if_pos w, if_pos ((le0_i q3).mpr w), if_pos ((le0_i q3).mpr w)]; exact ⟨rfl, rfl, rfl⟩
    · rw [if_neg w, if_neg w, if_neg (fun z => w ((le0_i q3).mp z)), if_neg (fun z => w ((le0_i q3).mp z))]; exact ⟨rfl, rfl, rfl⟩
  · obtain ⟨q1, q2, q3, q4, q5, q6, q7, q8, q9, q10⟩ := hq k hk
    obtain ⟨m1, m2, m3, m4, m5, m6⟩ := mp k (by omega) (by omega)
    rw [(cj (8 + k) (by omega)).1, (cj (8 + k) (by omega)).2, (cs k (by omega)).2.1, (cs k (by omega)).2.2.1, (cs k (by omega)).2.2.2, q6, q7, q8, q9, q10, m2, m3, m4, m5, m6]
    exact ⟨rfl, rfl, rfl, rfl, rfl⟩
  · obtain ⟨q1, q2, q3, q4, q5, q6⟩ := hg k (by omega)
    obtain ⟨m1, m2, m3⟩ := mg k (by omega) (by omega)
    rw [m1, m2, m3]
    by_cases w : t.2.1 2 k ≤ 0
    · rw [if_pos w, if_pos w]; exact ⟨i0, i0, q3⟩
    · rw [if_neg w, if_neg w]; exact ⟨q1, q2, q3⟩
  · obtain ⟨q1, q2, q3, q4, -⟩ := hq k (by omega)
    obtain ⟨m1, m2, m3, m4, m5, m6⟩ := mp k (by omega) (by omega)
    rw [m2, m3, m4, m5]
    exact ⟨q1, q2, q3, q4.1, by have := q4.2; omega⟩
  · obtain ⟨m1, m2, m3, m4, m5, m6⟩ := mp k (by omega) (by omega)
    rw [m6]; exact ⟨by omega, by omega⟩
  · obtain ⟨m1, m2, m3, m4, m5, m6⟩ := mp y (by omega) (by omega)
    exact absurd m6 n1
  · refine bs_w hb (fun g hg8 => ?_)
    constructor
    · rintro ⟨a, b⟩
      obtain ⟨m1, -⟩ := mp g hg8 (by omega)
      exact ⟨by omega, m1.symm.trans b⟩
    · rintro ⟨a, b⟩
      obtain ⟨m1, -⟩ := mp g hg8 (by omega)
      exact ⟨by omega, m1.trans b⟩
  · obtain ⟨y, y1, y2⟩ := kw2 k hk
    have e : y = q' 3 k := Int32.toInt_inj.mp (y1.trans (w4 k (by omega) (by omega)).symm)
    rw [← e]; exact y2
  · rcases d4 with w | w | w
    · exact absurd (Int32.toInt_inj.mp (show wl2.toInt = (0 : Int32).toInt by rw [← e4]; exact w)) hn
    · omega
    · rw [← e4]; exact w
  · obtain ⟨y, y1, y2⟩ := ks2 k hk
    have e : y = q' 4 k := Int32.toInt_inj.mp (y1.trans (w5 k (by omega) (by omega)).symm)
    rw [← e]; exact y2
  · rcases d5 with w | w | w
    · exact absurd (Int32.toInt_inj.mp (show sl2.toInt = (0 : Int32).toInt by rw [← e5]; exact w)) hn
    · omega
    · rw [← e5]; exact w
  · rw [(rr4 k hk).1]
    exact (mr k (by omega) (by rw [t2, ← rr1]; exact hk)).symm
  · exact Int32.toInt_inj.mp hyr
theorem z_tower (h : GQ q G P yr jw br st ag fm se ac rows sz who beh sjw ob rs ce wl sl rain wit sit ik kG kP kyr kjw kbr kst kag kfm kse kac krows ksz kwho kbeh ksjw) (hp0 : 0 ≤ p1.toInt) (hpt : p1.toInt ≤ o.1) (hki : iv ik 0 1) (e4 : (r.toInt ≠ 0 ∧ ik2.toInt = ik.toInt) ∨ (r.toInt = 0 ∧ ik2.toInt = 0))
    (e5 : r.toInt = 0 → ux_TG (ux_pv (ux_Bt o.2.1 p1.toInt)) pj pb ps pa pf pse rain2 wit2 sit2 ob2 pG pP rs2 ce2 wl2 sl2 jw2 br2 st2 ag2 fm2 se2 G2 P2 yr2 ac2 sz2)
    (e6 : r.toInt ≠ 0 → (pj, pb, ps, pa, pf, pse, rain2, wit2, sit2, ob2, pG, pP, rs2, ce2, wl2, sl2, jw2, br2, st2, ag2, fm2, se2, G2, P2, yr2, ac2, sz2) = (pj0, pb0, ps0, pa0, pf0, pse0, rain, wit, sit, ob, pG0, pP0, rs, ce, wl, sl, jw, br, st, ag, fm, se, G, P, yr, ac, sz))
    (hr : r.toInt = ((ux_tw (ux_Bt o.2.1 p1.toInt)).1 : Int))
    (ht : ((p1.toInt < 0 ∨ o.1 < p1.toInt) ∧ cv = 1 ∧ o' = o) ∨ (0 ≤ p1.toInt ∧ p1.toInt ≤ o.1 ∧ cv = 0 ∧ r'.toInt = ((ux_tw (ux_Bt o.2.1 p1.toInt)).1 : Int) ∧ o' = ux_to o p1.toInt))
    (hx : XM_tower o q p1 cv r' q') : GQ q' G2 P2 yr2 jw2 br2 st2 ag2 fm2 se2 ac2 rows sz2 who beh sjw ob2 rs2 ce2 wl2 sl2 rain2 wit2 sit2 ik2 kG kP kyr kjw kbr kst kag kfm kse kac krows ksz kwho kbeh ksjw := by
  obtain ⟨x1, x2, x3, x4, x5, f13, f14, f15, f16, f17, f18, f19, f20, f21, j3, j4⟩ := hx
  rcases ht with ⟨w, -, -⟩ | ⟨-, -, hcv, hr', -⟩
  · omega
  · by_cases h0 : r.toInt = 0
    · obtain ⟨n, m, c1, c2, c3, c4, c5, c6, c7, c8, c9, c10, c11⟩ := sq_new (e5 h0) (x4 hcv (by omega)) x2 x3 x1
      have hik : ik2 = 0 := Int32.toInt_inj.mp (e4.elim (fun z => absurd h0 z.1) (fun z => z.2))
      have e0 : (0 : Int32).toInt = 0 := rfl
      subst c6 c8 c10
      exact ⟨n, m, c1, c7.symm, ⟨by decide, by decide⟩, c9.symm, ⟨⟨by decide, by decide⟩, fun a ha => (z0_lt ha).elim⟩, ⟨c11.symm, ⟨by decide, by decide⟩, fun a ha => (z0_lt ha).elim⟩, c2, c3, c4, c5, fun w => absurd hik w⟩
    · have e := e6 h0
      simp only [Prod.mk.injEq] at e
      obtain ⟨-, -, -, -, -, -, rfl, rfl, rfl, rfl, -, -, rfl, rfl, rfl, rfl, rfl, rfl, rfl, rfl, rfl, rfl, rfl, rfl, rfl, rfl, rfl⟩ := e
      have hik : ik2 = ik := Int32.toInt_inj.mp (e4.elim (fun z => z.2) (fun z => absurd z.1 h0))
      subst hik
      exact GQ_kq h (x5 (Or.inr (by omega)))
end UXP15
