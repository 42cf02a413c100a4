/-! state, plan, acts, what was seen, the image: carried along -/
theorem ii_ {p : Int32} {a b : Int64} : uy_ii p.toInt64 a b = if a.toInt ≤ p.toInt ∧ p.toInt ≤ b.toInt then 1 else 0 := by
  unfold uy_ii; rw [Int32.toInt_toInt64]
theorem ii_0 {p : Int32} {a b : Int64} {lo hi : Int} (ha : a.toInt = lo) (hb : b.toInt = hi) (h : ¬ (lo ≤ p.toInt ∧ p.toInt ≤ hi)) : uy_ii p.toInt64 a b = 0 := by
  rw [ii_, ha, hb, if_neg h]
theorem ii_1 {p : Int32} {a b : Int64} {lo hi : Int} (ha : a.toInt = lo) (hb : b.toInt = hi) (h : lo ≤ p.toInt ∧ p.toInt ≤ hi) : uy_ii p.toInt64 a b = 1 := by
  rw [ii_, ha, hb, if_pos h]
theorem ivlt {x y : Int32} (h : x.toInt < y.toInt) : x < y := Int32.lt_iff_toInt_lt.mpr h
theorem z0_lt {k : Nat} (h : (k : Int) < (0 : Int32).toInt) : False := by
  have e : (0 : Int32).toInt = 0 := rfl
  rw [e] at h; omega
section UXP13
variable {n m b : Nat} {G P yr ac rs wl sl ob ce p x y sz sn oi ik kG kP kyr kac ksz acT snT : Int32} {rows past rows2 past2 tl tl2 orp orp2 sgW sgS sgW2 sgS2 wit sit rain rains rains2 jw br st ag fm se jaw brow stn fc fh ag' fm' se' who beh sjw who2 beh2 sjw2 w' i' j' w2 i2 j2 kjw kbr kst kag kfm kse krows kwho kbeh ksjw row row2 f g : Nat → Int32}
theorem q_isS (h0 : tl 0 = G) (h : 0 ≤ G.toInt) : m_Model_isStone tl p = if 0 ≤ p.toInt ∧ p.toInt < G.toInt then 1 else 0 := by
  have E : m_Model_isStone tl p = uy_ii p.toInt64 (0 : Int64) (G - 1).toInt64 := by rw [← h0]; rfl
  have e1 : (1 : Int32).toInt = 1 := rfl
  have hr := iv_rng G
  have e0 : (0 : Int64).toInt = 0 := by decide
  have eg : (G - 1).toInt = G.toInt - 1 := by rw [iv_tsub (by omega) (by omega), e1]
  rw [E, ii_, Int32.toInt_toInt64, e0, eg]
  by_cases q : 0 ≤ p.toInt ∧ p.toInt < G.toInt
  · rw [if_pos q, if_pos ⟨q.1, by omega⟩]
  · rw [if_neg q, if_neg (fun w => q ⟨w.1, by omega⟩)]
theorem q_isP (h0 : tl 1 = P) (h : 0 ≤ P.toInt) : m_Model_isPerson tl p = if 0 ≤ p.toInt ∧ p.toInt < P.toInt then 1 else 0 := by
  have E : m_Model_isPerson tl p = uy_ii p.toInt64 (0 : Int64) (P - 1).toInt64 := by rw [← h0]; rfl
  have e1 : (1 : Int32).toInt = 1 := rfl
  have hr := iv_rng P
  have e0 : (0 : Int64).toInt = 0 := by decide
  have eg : (P - 1).toInt = P.toInt - 1 := by rw [iv_tsub (by omega) (by omega), e1]
  rw [E, ii_, Int32.toInt_toInt64, e0, eg]
  by_cases q : 0 ≤ p.toInt ∧ p.toInt < P.toInt
  · rw [if_pos q, if_pos ⟨q.1, by omega⟩]
  · rw [if_neg q, if_neg (fun w => q ⟨w.1, by omega⟩)]
/-- lengths of a state alike -/
theorem sq_A_b (h : sq_A n m G P jw br st ag fm se tl jaw brow stn fc fh ag' fm' se') : 0 ≤ G.toInt ∧ G.toInt ≤ 8 ∧ 0 ≤ P.toInt ∧ P.toInt ≤ 8 := by
  obtain ⟨hG, hP, hn, hm, hn8, hm8, -⟩ := h
  omega
theorem sq_A_t (h : sq_A n m G P jw br st ag fm se tl jaw brow stn fc fh ag' fm' se') (e : ux_lo 6 tl tl2) : sq_A n m G P jw br st ag fm se tl2 jaw brow stn fc fh ag' fm' se' := by
  obtain ⟨hG, hP, r⟩ := h
  exact ⟨(e 0 (by decide)).trans hG, (e 1 (by decide)).trans hP, r⟩
theorem wf_c (h : wf f x) (e : ∀ j : Nat, (j : Int) < x.toInt → g j = f j) : wf g x := fun k hk => by
  rw [e k hk, dep_congr k (fun j hj => e j (by omega))]
  exact h k hk
theorem sq_L_c (h : sq_L m ob ce wl sl wit sit tl orp sgW sgS) (hw : wl.toInt ≤ 700) (hs : sl.toInt ≤ 700) (e : ux_lo 6 tl tl2) (eo : ux_lo 8 orp orp2) (eW : ux_lo 700 sgW sgW2) (eS : ux_lo 700 sgS sgS2) : sq_L m ob ce wl sl wit sit tl2 orp2 sgW2 sgS2 := by
  obtain ⟨l3, l4, l5, lo, lw0, lwC, lwW, lwd, ls0, lsC, lsW, lsd⟩ := h
  refine ⟨(e 3 (by decide)).trans l3, (e 4 (by decide)).trans l4, (e 5 (by decide)).trans l5, bs_w lo (fun g hg => ?_), lw0, fun k hk => ?_, wf_c lwW (fun j hj => eW j (by omega)), fun q => ?_, ls0, fun k hk => ?_, wf_c lsW (fun j hj => eS j (by omega)), fun q => ?_⟩
  · have e9 := eo g hg
    exact ⟨fun ⟨a, c⟩ => ⟨a, e9.symm.trans c⟩, fun ⟨a, c⟩ => ⟨a, e9.trans c⟩⟩
  · rw [eW k (by omega)]; exact lwC k hk
  · rw [dep_congr _ (fun j hj => eW j (by omega))]; exact lwd q
  · rw [eS k (by omega)]; exact lsC k hk
  · rw [dep_congr _ (fun j hj => eS j (by omega))]; exact lsd q
theorem sq_R_c (h : sq_R rs rain tl rains) (e : ux_lo 6 tl tl2) (er : ux_lo 8 rains rains2) : sq_R rs rain tl2 rains2 := ⟨(e 2 (by decide)).trans h.1, h.2.1, fun k hk => (h.2.2 k hk).trans (er k (by have := h.2.1.2; omega)).symm⟩
theorem sqr_t (h : sqr n m G P rows past tl b) (e : ux_lo 6 tl tl2) : sqr n m G P rows past tl2 b := by
  obtain ⟨a1, a2, a3, a4, a5, a6, c1, c2, c3, c4, c5, c6, c7, c8, y, h1, h2, h3, h4⟩ := h
  exact ⟨a1, a2, a3, a4, a5, a6, c1, c2, c3, c4, c5, c6, c7, c8, y, h1, h2, sq_A_t h3 e, h4⟩
theorem sqK_c (h : sqK n m G P tl rows past ac) (e : ux_lo 6 tl tl2) (er : ∀ j : Nat, (j : Int) < 65 * ac.toInt → rows2 j = rows j) (ep : ux_lo 2600 past past2) : sqK n m G P tl2 rows2 past2 ac := by
  have h1 := h.1.2
  exact ⟨h.1, fun a ha => sqr_t (sqr_c (h.2 a ha) (fun j q1 q2 => er j (by omega)) (fun j q1 q2 => ep j (by omega))) e⟩
/-- what was seen -/
def sqS (m : Nat) (sz : Int32) (who beh sjw : Nat → Int32) (sn : Int32) (w' i' j' : Nat → Int32) : Prop := sz = sn ∧ iv sz 0 8 ∧ ∀ k : Nat, (k : Int) < sz.toInt → who k = w' k ∧ beh k = i' k ∧ sjw k = j' k ∧ (0 ≤ (who k).toInt ∧ (who k).toInt < (m : Int)) ∧ 0 ≤ (beh k).toInt ∧ (beh k).toInt ≤ 20
theorem sqS_c (h : sqS m sz who beh sjw sn w' i' j') (c1 : ux_lo 8 who who2) (c2 : ux_lo 8 beh beh2) (c3 : ux_lo 8 sjw sjw2) (e1 : ux_lo 8 w' w2) (e2 : ux_lo 8 i' i2) (e3 : ux_lo 8 j' j2) : sqS m sz who2 beh2 sjw2 sn w2 i2 j2 := by
  have h2 := h.2.1.2
  refine ⟨h.1, h.2.1, fun k hk => ?_⟩
  have k8 : k < 8 := by omega
  rw [c1 k k8, c2 k k8, c3 k k8, e1 k k8, e2 k k8, e3 k k8]
  exact h.2.2 k hk
/-- the image -/
def sqI (n m : Nat) (G P : Int32) (tl row past : Nat → Int32) (acT snT : Int32) (w' i' j' : Nat → Int32) (ik kG kP kyr : Int32) (kjw kbr kst kag kfm kse : Nat → Int32) (kac : Int32) (krows : Nat → Int32) (ksz : Int32) (kwho kbeh ksjw : Nat → Int32) : Prop :=
  ik ≠ 0 → kG = G ∧ kP = P ∧ iv kyr 0 999 ∧ (∃ jaw brow stn fc fh ag fm se : Nat → Int32, rwM row 0 kyr jaw brow stn fc fh ag fm se ∧ sq_A n m G P kjw kbr kst kag kfm kse tl jaw brow stn fc fh ag fm se) ∧ kac = acT ∧ sqK n m G P tl krows past kac ∧ sqS m ksz kwho kbeh ksjw snT w' i' j'
theorem sqI_c (h : sqI n m G P tl row past acT snT w' i' j' ik kG kP kyr kjw kbr kst kag kfm kse kac krows ksz kwho kbeh ksjw) (e : ux_lo 6 tl tl2) (er : ux_lo 65 row row2) (ep : ux_lo 2600 past past2) (e1 : ux_lo 8 w' w2) (e2 : ux_lo 8 i' i2) (e3 : ux_lo 8 j' j2) : sqI n m G P tl2 row2 past2 acT snT w2 i2 j2 ik kG kP kyr kjw kbr kst kag kfm kse kac krows ksz kwho kbeh ksjw := fun hk => by
  obtain ⟨a1, a2, a3, ⟨b1, b2, b3, b4, b5, b6, b7, b8, c1, c2⟩, a4, a5, a6⟩ := h hk
  exact ⟨a1, a2, a3, ⟨b1, b2, b3, b4, b5, b6, b7, b8, rwM_c c1 (fun j q1 q2 => er j (by omega)), sq_A_t c2 e⟩, a4, sqK_c a5 e (fun _ _ => rfl) ep, sqS_c a6 ux_lo_rf ux_lo_rf ux_lo_rf e1 e2 e3⟩
theorem q_cp8 (g f : Nat → Int32) : ux_lo 8 f (m_Model_copyTo8 g f) := by
  have e8 : (8 : Int32).toInt = 8 := rfl
  unfold m_Model_copyTo8 m_Model_copyTo8_k2
  refine uy_inv (α := Int32 × (Nat → Int32)) 8 (fun k a => a.1.toInt = (k : Int) ∧ ∀ j : Nat, j < k → a.2 j = f j) (fun R => ux_lo 8 f R) ?_ ⟨rfl, fun j h => absurd h (Nat.not_lt_zero j)⟩
  rintro k ⟨i, v⟩ hk ⟨hi, hv⟩
  have hi : i.toInt = (k : Int) := hi
  have hv : ∀ j : Nat, j < k → v j = f j := hv
  have E : m_Model_copyTo8_b2 g f i v = (if (8 : Int32) ≤ i then .inr v else .inl (i + 1, upd v i.toNatClampNeg (f i.toNatClampNeg))) := rfl
  by_cases h : (8 : Int32) ≤ i
  · have := ct_ge h hi
    exact Or.inr ⟨v, E.trans (if_pos h), fun j hj => hv j (by omega)⟩
  · have hl := ct_lt h hi
    refine Or.inl ⟨by omega, _, E.trans (if_neg h), ct_s hi (by omega), fun j hj => ?_⟩
    show upd v i.toNatClampNeg (f i.toNatClampNeg) j = f j
    rw [ct_n hi]
    by_cases q : j = k
    · rw [q, pk_us]
    · rw [pk_un q]; exact hv j (by omega)
theorem q_cp26 (g f : Nat → Int32) : ux_lo 2600 f (m_Model_copyTo2600 g f) := by
  have e8 : (2600 : Int32).toInt = 2600 := rfl
  unfold m_Model_copyTo2600 m_Model_copyTo2600_k2
  refine uy_inv (α := Int32 × (Nat → Int32)) 2600 (fun k a => a.1.toInt = (k : Int) ∧ ∀ j : Nat, j < k → a.2 j = f j) (fun R => ux_lo 2600 f R) ?_ ⟨rfl, fun j h => absurd h (Nat.not_lt_zero j)⟩
  rintro k ⟨i, v⟩ hk ⟨hi, hv⟩
  have hi : i.toInt = (k : Int) := hi
  have hv : ∀ j : Nat, j < k → v j = f j := hv
  have E : m_Model_copyTo2600_b2 g f i v = (if (2600 : Int32) ≤ i then .inr v else .inl (i + 1, upd v i.toNatClampNeg (f i.toNatClampNeg))) := rfl
  by_cases h : (2600 : Int32) ≤ i
  · have := ct_ge h hi
    exact Or.inr ⟨v, E.trans (if_pos h), fun j hj => hv j (by omega)⟩
  · have hl := ct_lt h hi
    refine Or.inl ⟨by omega, _, E.trans (if_neg h), ct_s hi (by omega), fun j hj => ?_⟩
    show upd v i.toNatClampNeg (f i.toNatClampNeg) j = f j
    rw [ct_n hi]
    by_cases q : j = k
    · rw [q, pk_us]
    · rw [pk_un q]; exact hv j (by omega)
/-- nobody sits there -/
theorem q_sitZ (hP : tl 1 = P) (hm : P.toInt = (m : Int)) : m_Model_sitterOf tl se' p = -1 → ∀ k : Nat, k < m → se' k ≠ p := by
  have hr := iv_rng P
  unfold m_Model_sitterOf m_Model_sitterOf_k2
  refine uy_inv m (fun k a => a.toInt = (k : Int) ∧ ∀ j : Nat, j < k → se' j ≠ p) (fun R => R = -1 → ∀ k : Nat, k < m → se' k ≠ p) ?_ ⟨rfl, fun j hj => absurd hj (Nat.not_lt_zero j)⟩
  rintro k a hk ⟨hc, hj⟩
  have E2 : m_Model_sitterOf_b2 tl se' p a = (if P ≤ a then .inr (-1) else if se' a.toNatClampNeg = p then .inr a else .inl (a + 1)) := by rw [← hP]; rfl
  by_cases h1 : P ≤ a
  · have := ct_ge h1 hc
    exact Or.inr ⟨_, E2.trans (if_pos h1), fun _ j hj' => hj j (by omega)⟩
  · have hl := ct_lt h1 hc
    rw [ct_n hc] at E2
    by_cases h2 : se' k = p
    · refine Or.inr ⟨_, E2.trans ((if_neg h1).trans (if_pos h2)), fun q => ?_⟩
      have e : (-1 : Int32).toInt = -1 := rfl
      rw [q, e] at hc
      omega
    · refine Or.inl ⟨by omega, _, E2.trans ((if_neg h1).trans (if_neg h2)), ct_s hc (by omega), fun j hj' => ?_⟩
      by_cases q : j = k
      · rw [q]; exact h2
      · exact hj j (by omega)
/-- a carving -/
theorem q_car (h : sq_A n m G P jw br st ag fm se tl jaw brow stn fc fh ag' fm' se') (hp : 0 ≤ p.toInt ∧ p.toInt < G.toInt) (hx : 0 ≤ x.toInt ∧ x.toInt ≤ 9) (hy : 0 ≤ y.toInt ∧ y.toInt ≤ 9) :
    ∃ jw2 br2 st2 jaw2 brow2 stn2 : Nat → Int32, m_State_carve jw br st p x y = (jw2, br2, st2) ∧ m_Model_carve jaw brow stn p x y = (jaw2, brow2, stn2) ∧ sq_A n m G P jw2 br2 st2 ag fm se tl jaw2 brow2 stn2 fc fh ag' fm' se' := by
  have E1 : m_State_carve jw br st p x y = (upd jw p.toNatClampNeg x, upd br p.toNatClampNeg y, upd st p.toNatClampNeg 99) := rfl
  have E2 : m_Model_carve jaw brow stn p x y = (upd jaw p.toNatClampNeg x, upd brow p.toNatClampNeg y, upd stn p.toNatClampNeg 99) := rfl
  obtain ⟨hG, hP, hn, hm, hn8, hm8, hs, hpp, hg, hw, hse⟩ := h
  obtain ⟨k, hk⟩ : ∃ k : Nat, p.toInt = (k : Int) := ⟨p.toInt.toNat, by omega⟩
  rw [ct_n hk] at E1 E2
  refine ⟨_, _, _, _, _, _, E1, E2, hG, hP, hn, hm, hn8, hm8, fun j hj => ?_, fun j hj => ?_, fun j hj => ?_, hw, hse⟩
  · by_cases q : j = k
    · rw [q, pk_us, pk_us, pk_us, pk_us, pk_us, pk_us]; exact ⟨rfl, rfl, rfl⟩
    · simp only [pk_un q]; exact hs j hj
  · have q : 8 + j ≠ k := by omega
    rw [pk_un q, pk_un q]; exact hpp j hj
  · by_cases q : j = k
    · rw [q]; simp only [pk_us]; exact ⟨hx, hy, iv_lit (99 : Int32) (by decide)⟩
    · simp only [pk_un q]; exact hg j hj
/-- somebody's seat -/
theorem q_sea1 (h : sq_A n m G P jw br st ag fm se tl jaw brow stn fc fh ag' fm' se') (hp : 0 ≤ p.toInt ∧ p.toInt < P.toInt) (hx : x = -1 ∨ (0 ≤ x.toInt ∧ x.toInt < G.toInt ∧ ∀ k : Nat, k < m → se' k ≠ x)) : sq_A n m G P jw br st ag fm (upd se p.toNatClampNeg x) tl jaw brow stn fc fh ag' fm' (upd se' p.toNatClampNeg x) := by
  obtain ⟨hG, hP, hn, hm, hn8, hm8, hs, hpp, hg, hw, hse⟩ := h
  obtain ⟨k, hk⟩ : ∃ k : Nat, p.toInt = (k : Int) := ⟨p.toInt.toNat, by omega⟩
  have em : (-1 : Int32).toInt = -1 := rfl
  rw [ct_n hk]
  refine ⟨hG, hP, hn, hm, hn8, hm8, hs, fun j hj => ?_, hg, hw, fun j hj => ?_, fun y z hy hz h1 h2 => ?_⟩
  · obtain ⟨r1, r2, r3, r4, r5⟩ := hpp j hj
    by_cases q : j = k
    · rw [q] at r1 r2 r3 r4 ⊢; rw [pk_us, pk_us]; exact ⟨r1, r2, r3, r4, rfl⟩
    · rw [pk_un q, pk_un q]; exact ⟨r1, r2, r3, r4, r5⟩
  · by_cases q : j = k
    · rw [q, pk_us]
      rcases hx with w | ⟨w1, w2, -⟩
      · rw [w]; exact ⟨by omega, by omega⟩
      · exact ⟨by omega, by omega⟩
    · rw [pk_un q]; exact hse.1 j hj
  · by_cases qy : y = k
    · by_cases qz : z = k
      · rw [qy, qz]
      · rw [qy, pk_us] at h1 h2
        rw [pk_un qz] at h2
        rcases hx with w | ⟨-, -, w⟩
        · exact absurd w h1
        · exact absurd h2.symm (w z hz)
    · by_cases qz : z = k
      · rw [pk_un qy] at h1 h2
        rw [qz, pk_us] at h2
        rcases hx with w | ⟨-, -, w⟩
        · exact absurd (h2.trans w) h1
        · exact absurd h2 (w y hy)
      · rw [pk_un qy] at h1 h2
        rw [pk_un qz] at h2
        exact hse.2 y z hy hz h1 h2
/-- somebody's family -/
theorem q_fam1 (h : sq_A n m G P jw br st ag fm se tl jaw brow stn fc fh ag' fm' se') (hp : 0 ≤ p.toInt ∧ p.toInt < P.toInt) (hx : -1 ≤ x.toInt ∧ x.toInt < G.toInt) : sq_A n m G P jw br st ag (upd fm p.toNatClampNeg x) se tl jaw brow stn fc fh ag' (upd fm' p.toNatClampNeg x) se' := by
  obtain ⟨hG, hP, hn, hm, hn8, hm8, hs, hpp, hg, hw, hse⟩ := h
  obtain ⟨k, hk⟩ : ∃ k : Nat, p.toInt = (k : Int) := ⟨p.toInt.toNat, by omega⟩
  rw [ct_n hk]
  refine ⟨hG, hP, hn, hm, hn8, hm8, hs, fun j hj => ?_, hg, fun j hj => ?_, hse⟩
  · obtain ⟨r1, r2, r3, r4, r5⟩ := hpp j hj
    by_cases q : j = k
    · rw [q] at r1 r2 r3 r5 ⊢; rw [pk_us, pk_us]; exact ⟨r1, r2, r3, rfl, r5⟩
    · rw [pk_un q, pk_un q]; exact ⟨r1, r2, r3, r4, r5⟩
  · obtain ⟨r1, r2, r3, r4⟩ := hw j hj
    by_cases q : j = k
    · rw [q] at r1 r2 r3 ⊢; rw [pk_us]; exact ⟨r1, r2, r3, by omega, by omega⟩
    · rw [pk_un q]; exact ⟨r1, r2, r3, r4⟩
end UXP13
