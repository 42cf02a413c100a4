/-! the reference's data, numbered; the class's held against them -/
abbrev OS := Nat → Nat → Int32
def mkq (a0 a1 a2 a3 a4 a5 a6 a7 a8 a9 a10 a11 a12 a13 a14 a15 a16 a17 a18 a19 a20 a21 : Nat → Int32) (y0 y1 y2 y3 y4 : Int32) : OS := fun i => ([a0, a1, a2, a3, a4, a5, a6, a7, a8, a9, a10, a11, a12, a13, a14, a15, a16, a17, a18, a19, a20, a21, fun k => ([y0, y1, y2, y3, y4] : List Int32).getD k 0] : List (Nat → Int32)).getD i (fun _ => 0)
def kq (q q' : OS) : Prop := ux_lo 6 (q 0) (q' 0) ∧ ux_lo 8 (q 1) (q' 1) ∧ ux_lo 8 (q 2) (q' 2) ∧ ux_lo 700 (q 3) (q' 3) ∧ ux_lo 700 (q 4) (q' 4) ∧ ux_lo 8 (q 5) (q' 5) ∧ ux_lo 8 (q 6) (q' 6) ∧ ux_lo 8 (q 7) (q' 7) ∧ ux_lo 8 (q 8) (q' 8) ∧ ux_lo 8 (q 9) (q' 9) ∧ ux_lo 8 (q 10) (q' 10) ∧ ux_lo 8 (q 11) (q' 11) ∧ ux_lo 8 (q 12) (q' 12) ∧ ux_lo 2600 (q 13) (q' 13) ∧ ux_lo 8 (q 14) (q' 14) ∧ ux_lo 8 (q 15) (q' 15) ∧ ux_lo 8 (q 16) (q' 16) ∧ ux_lo 65 (q 17) (q' 17) ∧ ux_lo 2600 (q 18) (q' 18) ∧ ux_lo 8 (q 19) (q' 19) ∧ ux_lo 8 (q 20) (q' 20) ∧ ux_lo 8 (q 21) (q' 21) ∧ q' 22 0 = q 22 0 ∧ q' 22 1 = q 22 1 ∧ q' 22 2 = q 22 2 ∧ q' 22 3 = q 22 3 ∧ q' 22 4 = q 22 4
/-- a rule's length; an orphan is 1, another 0 -/
def gqO (m : Nat) (sl : Int32) (orp : Nat → Int32) : Prop := sl.toInt ≤ 700 ∧ ∀ k : Nat, k < m → orp k = 0 ∨ orp k = 1
theorem gqO_c {m : Nat} {sl : Int32} {orp orp2 : Nat → Int32} (h : gqO m sl orp) (hm : m ≤ 8) (e : ux_lo 8 orp orp2) : gqO m sl orp2 := ⟨h.1, fun k hk => by rw [e k (by omega)]; exact h.2 k hk⟩
def GQ (q : OS) (G : Int32) (P : Int32) (yr : Int32) (jw : Nat → Int32) (br : Nat → Int32) (st : Nat → Int32) (ag : Nat → Int32) (fm : Nat → Int32) (se : Nat → Int32) (ac : Int32) (rows : Nat → Int32) (sz : Int32) (who : Nat → Int32) (beh : Nat → Int32) (sjw : Nat → Int32) (ob : Int32) (rs : Int32) (ce : Int32) (wl : Int32) (sl : Int32) (rain : Nat → Int32) (wit : Nat → Int32) (sit : Nat → Int32) (ik : Int32) (kG : Int32) (kP : Int32) (kyr : Int32) (kjw : Nat → Int32) (kbr : Nat → Int32) (kst : Nat → Int32) (kag : Nat → Int32) (kfm : Nat → Int32) (kse : Nat → Int32) (kac : Int32) (krows : Nat → Int32) (ksz : Int32) (kwho : Nat → Int32) (kbeh : Nat → Int32) (ksjw : Nat → Int32) : Prop := ∃ n m : Nat, sq_A n m G P jw br st ag fm se (q 0) (q 5) (q 6) (q 7) (q 8) (q 9) (q 10) (q 11) (q 12) ∧ yr = q 22 0 ∧ iv yr 0 999 ∧ ac = q 22 1 ∧ sqK n m G P (q 0) rows (q 13) ac ∧ sqS m sz who beh sjw (q 22 2) (q 14) (q 15) (q 16) ∧ sq_L m ob ce wl sl wit sit (q 0) (q 1) (q 3) (q 4) ∧ wl.toInt ≤ 700 ∧ gqO m sl (q 1) ∧ sq_R rs rain (q 0) (q 2) ∧ sqI n m G P (q 0) (q 17) (q 18) (q 22 3) (q 22 4) (q 19) (q 20) (q 21) ik kG kP kyr kjw kbr kst kag kfm kse kac krows ksz kwho kbeh ksjw
def XM_years (q : OS) (p1 : Int32) (c' r' : Int32) (q' : OS) : Prop := ∃ (x_this_satDown : Int32) (f_this_status : Nat → Int32) (f_this_asked : Nat → Int32) (f_this_stack : Nat → Int32) (f_this_status2 : Nat → Int32) (f_this_asked2 : Nat → Int32) (f_this_stack2 : Nat → Int32) (x_this_satDown2 : Int32), (r', c', f_this_status2, q' 13, q' 22 1, f_this_asked2, f_this_stack2, q' 7, q' 5, q' 6, q' 10, q' 8, q' 9, q' 12, x_this_satDown2, q' 22 0) = m_Model_years (q 22 0) (q 22 1) x_this_satDown (q 0) (q 1) (q 2) (q 3) (q 4) f_this_status (q 5) (q 6) (q 7) (q 8) (q 9) (q 10) (q 11) (q 12) (q 13) f_this_asked f_this_stack p1 ∧ q' 0 = q 0 ∧ q' 1 = q 1 ∧ q' 2 = q 2 ∧ q' 3 = q 3 ∧ q' 4 = q 4 ∧ q' 11 = q 11 ∧ q' 14 = q 14 ∧ q' 15 = q 15 ∧ q' 16 = q 16 ∧ q' 17 = q 17 ∧ q' 18 = q 18 ∧ q' 19 = q 19 ∧ q' 20 = q 20 ∧ q' 21 = q 21 ∧ q' 22 2 = q 22 2 ∧ q' 22 3 = q 22 3 ∧ q' 22 4 = q 22 4
def XM_undo (q : OS) (c' r' : Int32) (q' : OS) : Prop := (r', c', q' 22 1, q' 22 0, q' 5, q' 6, q' 7, q' 8, q' 9, q' 10, q' 11, q' 12) = m_Model_undo (q 22 0) (q 22 1) (q 5) (q 6) (q 7) (q 8) (q 9) (q 10) (q 11) (q 12) (q 13) ∧ q' 0 = q 0 ∧ q' 1 = q 1 ∧ q' 2 = q 2 ∧ q' 3 = q 3 ∧ q' 4 = q 4 ∧ q' 13 = q 13 ∧ q' 14 = q 14 ∧ q' 15 = q 15 ∧ q' 16 = q 16 ∧ q' 17 = q 17 ∧ q' 18 = q 18 ∧ q' 19 = q 19 ∧ q' 20 = q 20 ∧ q' 21 = q 21 ∧ q' 22 2 = q 22 2 ∧ q' 22 3 = q 22 3 ∧ q' 22 4 = q 22 4
def XM_cut (q : OS) (p1 p2 p3 : Int32) (c' r' : Int32) (q' : OS) : Prop := ∃ (f_this_status : Nat → Int32) (f_this_status2 : Nat → Int32), (r', c', f_this_status2, q' 13, q' 22 1, q' 5, q' 6, q' 7) = m_Model_cut (q 22 0) (q 22 1) (q 0) f_this_status (q 5) (q 6) (q 7) (q 8) (q 9) (q 10) (q 11) (q 12) (q 13) p1 p2 p3 ∧ q' 0 = q 0 ∧ q' 1 = q 1 ∧ q' 2 = q 2 ∧ q' 3 = q 3 ∧ q' 4 = q 4 ∧ q' 8 = q 8 ∧ q' 9 = q 9 ∧ q' 10 = q 10 ∧ q' 11 = q 11 ∧ q' 12 = q 12 ∧ q' 14 = q 14 ∧ q' 15 = q 15 ∧ q' 16 = q 16 ∧ q' 17 = q 17 ∧ q' 18 = q 18 ∧ q' 19 = q 19 ∧ q' 20 = q 20 ∧ q' 21 = q 21 ∧ q' 22 0 = q 22 0 ∧ q' 22 2 = q 22 2 ∧ q' 22 3 = q 22 3 ∧ q' 22 4 = q 22 4
def XM_call (q : OS) (p1 : Int32) (c' r' : Int32) (q' : OS) : Prop := ∃ (f_this_status : Nat → Int32) (f_this_status2 : Nat → Int32), (r', c', f_this_status2, q' 13, q' 22 1, q' 12) = m_Model_call (q 22 0) (q 22 1) (q 0) f_this_status (q 5) (q 6) (q 7) (q 8) (q 9) (q 10) (q 11) (q 12) (q 13) p1 ∧ q' 0 = q 0 ∧ q' 1 = q 1 ∧ q' 2 = q 2 ∧ q' 3 = q 3 ∧ q' 4 = q 4 ∧ q' 5 = q 5 ∧ q' 6 = q 6 ∧ q' 7 = q 7 ∧ q' 8 = q 8 ∧ q' 9 = q 9 ∧ q' 10 = q 10 ∧ q' 11 = q 11 ∧ q' 14 = q 14 ∧ q' 15 = q 15 ∧ q' 16 = q 16 ∧ q' 17 = q 17 ∧ q' 18 = q 18 ∧ q' 19 = q 19 ∧ q' 20 = q 20 ∧ q' 21 = q 21 ∧ q' 22 0 = q 22 0 ∧ q' 22 2 = q 22 2 ∧ q' 22 3 = q 22 3 ∧ q' 22 4 = q 22 4
def XM_lift (q : OS) (p1 p2 : Int32) (c' r' : Int32) (q' : OS) : Prop := ∃ (f_this_status : Nat → Int32) (f_this_status2 : Nat → Int32), (r', c', f_this_status2, q' 13, q' 22 1, q' 12) = m_Model_lift (q 22 0) (q 22 1) (q 0) f_this_status (q 5) (q 6) (q 7) (q 8) (q 9) (q 10) (q 11) (q 12) (q 13) p1 p2 ∧ q' 0 = q 0 ∧ q' 1 = q 1 ∧ q' 2 = q 2 ∧ q' 3 = q 3 ∧ q' 4 = q 4 ∧ q' 5 = q 5 ∧ q' 6 = q 6 ∧ q' 7 = q 7 ∧ q' 8 = q 8 ∧ q' 9 = q 9 ∧ q' 10 = q 10 ∧ q' 11 = q 11 ∧ q' 14 = q 14 ∧ q' 15 = q 15 ∧ q' 16 = q 16 ∧ q' 17 = q 17 ∧ q' 18 = q 18 ∧ q' 19 = q 19 ∧ q' 20 = q 20 ∧ q' 21 = q 21 ∧ q' 22 0 = q 22 0 ∧ q' 22 2 = q 22 2 ∧ q' 22 3 = q 22 3 ∧ q' 22 4 = q 22 4
def XM_leave (q : OS) (p1 p2 : Int32) (c' r' : Int32) (q' : OS) : Prop := ∃ (f_this_status : Nat → Int32) (f_this_status2 : Nat → Int32), (r', c', f_this_status2, q' 13, q' 22 1, q' 11) = m_Model_leave (q 22 0) (q 22 1) (q 0) f_this_status (q 5) (q 6) (q 7) (q 8) (q 9) (q 10) (q 11) (q 12) (q 13) p1 p2 ∧ q' 0 = q 0 ∧ q' 1 = q 1 ∧ q' 2 = q 2 ∧ q' 3 = q 3 ∧ q' 4 = q 4 ∧ q' 5 = q 5 ∧ q' 6 = q 6 ∧ q' 7 = q 7 ∧ q' 8 = q 8 ∧ q' 9 = q 9 ∧ q' 10 = q 10 ∧ q' 12 = q 12 ∧ q' 14 = q 14 ∧ q' 15 = q 15 ∧ q' 16 = q 16 ∧ q' 17 = q 17 ∧ q' 18 = q 18 ∧ q' 19 = q 19 ∧ q' 20 = q 20 ∧ q' 21 = q 21 ∧ q' 22 0 = q 22 0 ∧ q' 22 2 = q 22 2 ∧ q' 22 3 = q 22 3 ∧ q' 22 4 = q 22 4
def XM_see (q : OS) (p1 p2 p3 : Int32) (c' r' : Int32) (q' : OS) : Prop := ∃ (f_this_status : Nat → Int32) (f_this_status2 : Nat → Int32), (r', c', f_this_status2, q' 14, q' 15, q' 16, q' 22 2) = m_Model_see (q 22 2) (q 0) f_this_status (q 14) (q 15) (q 16) p1 p2 p3 ∧ q' 0 = q 0 ∧ q' 1 = q 1 ∧ q' 2 = q 2 ∧ q' 3 = q 3 ∧ q' 4 = q 4 ∧ q' 5 = q 5 ∧ q' 6 = q 6 ∧ q' 7 = q 7 ∧ q' 8 = q 8 ∧ q' 9 = q 9 ∧ q' 10 = q 10 ∧ q' 11 = q 11 ∧ q' 12 = q 12 ∧ q' 13 = q 13 ∧ q' 17 = q 17 ∧ q' 18 = q 18 ∧ q' 19 = q 19 ∧ q' 20 = q 20 ∧ q' 21 = q 21 ∧ q' 22 0 = q 22 0 ∧ q' 22 1 = q 22 1 ∧ q' 22 3 = q 22 3 ∧ q' 22 4 = q 22 4
def XM_forget (q : OS) (c' : Int32) (q' : OS) : Prop := (c', q' 22 2) = m_Model_forget ∧ q' 0 = q 0 ∧ q' 1 = q 1 ∧ q' 2 = q 2 ∧ q' 3 = q 3 ∧ q' 4 = q 4 ∧ q' 5 = q 5 ∧ q' 6 = q 6 ∧ q' 7 = q 7 ∧ q' 8 = q 8 ∧ q' 9 = q 9 ∧ q' 10 = q 10 ∧ q' 11 = q 11 ∧ q' 12 = q 12 ∧ q' 13 = q 13 ∧ q' 14 = q 14 ∧ q' 15 = q 15 ∧ q' 16 = q 16 ∧ q' 17 = q 17 ∧ q' 18 = q 18 ∧ q' 19 = q 19 ∧ q' 20 = q 20 ∧ q' 21 = q 21 ∧ q' 22 0 = q 22 0 ∧ q' 22 1 = q 22 1 ∧ q' 22 3 = q 22 3 ∧ q' 22 4 = q 22 4
def XM_image (q : OS) (c' : Int32) (q' : OS) : Prop := ∃ (f_this_status : Nat → Int32) (f_this_statusThen : Nat → Int32) (x_this_hasImage2 : Int32) (f_this_statusThen2 : Nat → Int32), (c', x_this_hasImage2, q' 22 3, q' 22 4, q' 17, q' 18, q' 19, q' 20, q' 21, f_this_statusThen2) = m_Model_image (q 22 0) (q 22 1) (q 22 2) f_this_status (q 5) (q 6) (q 7) (q 8) (q 9) (q 10) (q 11) (q 12) (q 13) (q 14) (q 15) (q 16) (q 17) (q 18) (q 19) (q 20) (q 21) f_this_statusThen ∧ q' 0 = q 0 ∧ q' 1 = q 1 ∧ q' 2 = q 2 ∧ q' 3 = q 3 ∧ q' 4 = q 4 ∧ q' 5 = q 5 ∧ q' 6 = q 6 ∧ q' 7 = q 7 ∧ q' 8 = q 8 ∧ q' 9 = q 9 ∧ q' 10 = q 10 ∧ q' 11 = q 11 ∧ q' 12 = q 12 ∧ q' 13 = q 13 ∧ q' 14 = q 14 ∧ q' 15 = q 15 ∧ q' 16 = q 16 ∧ q' 22 0 = q 22 0 ∧ q' 22 1 = q 22 1 ∧ q' 22 2 = q 22 2
def XM_restore (q : OS) (oi : Int) (c' r' : Int32) (q' : OS) : Prop := ∃ (f_this_status : Nat → Int32) (f_this_statusThen : Nat → Int32) (f_this_status2 : Nat → Int32) (x_this_hasImage : Int32), x_this_hasImage.toInt = oi ∧ (r', c', q' 22 1, q' 22 2, q' 22 0, q' 5, q' 6, q' 7, q' 8, q' 9, q' 10, q' 11, q' 12, q' 13, q' 14, q' 15, q' 16, f_this_status2) = m_Model_restore (q 22 0) (q 22 1) (q 22 2) x_this_hasImage (q 22 3) (q 22 4) f_this_status (q 5) (q 6) (q 7) (q 8) (q 9) (q 10) (q 11) (q 12) (q 13) (q 14) (q 15) (q 16) (q 17) (q 18) (q 19) (q 20) (q 21) f_this_statusThen ∧ q' 0 = q 0 ∧ q' 1 = q 1 ∧ q' 2 = q 2 ∧ q' 3 = q 3 ∧ q' 4 = q 4 ∧ q' 17 = q 17 ∧ q' 18 = q 18 ∧ q' 19 = q 19 ∧ q' 20 = q 20 ∧ q' 21 = q 21 ∧ q' 22 3 = q 22 3 ∧ q' 22 4 = q 22 4
section UXZ
variable {q q' : OS} {G P yr ac sz ob rs ce wl sl ik kG kP kyr kac ksz r r' c' p1 p2 p3 : Int32} {jw br st ag fm se rows who beh sjw rain wit sit kjw kbr kst kag kfm kse krows kwho kbeh ksjw : Nat → Int32} {oi : Int}
theorem GQ_kq (h : GQ q G P yr jw br st ag fm se ac rows sz who beh sjw ob rs ce wl sl rain wit sit ik kG kP kyr kjw kbr kst kag kfm kse kac krows ksz kwho kbeh ksjw) (k : kq q q') : GQ q' G P yr jw br st ag fm se ac rows sz who beh sjw ob rs ce wl sl rain wit sit ik kG kP kyr kjw kbr kst kag kfm kse kac krows ksz kwho kbeh ksjw := by
  obtain ⟨n, m, hA, hy, hyi, hac, hK, hS, hL, hw7, hs7, hR, hI⟩ := h
  obtain ⟨k0, k1, k2, k3, k4, k5, k6, k7, k8, k9, k10, k11, k12, k13, k14, k15, k16, k17, k18, k19, k20, k21, j0, j1, j2, j3, j4⟩ := k
  exact ⟨n, m, sq_A_t (sq_A_c hA (fun _ _ => ⟨rfl, rfl⟩) (fun _ _ => ⟨rfl, rfl, rfl, rfl⟩) (fun z hz => ⟨k5 z hz, k6 z hz, k7 z hz⟩) (fun z hz => ⟨k8 z hz, k9 z hz, k10 z hz, k11 z hz, k12 z hz⟩)) k0, hy.trans j0.symm, hyi, hac.trans j1.symm, sqK_c hK k0 (fun _ _ => rfl) k13, by rw [j2]; exact sqS_c hS ux_lo_rf ux_lo_rf ux_lo_rf k14 k15 k16, sq_L_c hL hw7 hs7.1 k0 k1 k3 k4, hw7, gqO_c hs7 hA.2.2.2.2.2.1 k1, sq_R_c hR k0 k2, by rw [j3, j4]; exact sqI_c hI k0 k17 k18 k19 k20 k21⟩
theorem z_undo {ac2 : Int32} {jw2 : Nat → Int32} {br2 : Nat → Int32} {st2 : Nat → Int32} {ag2 : Nat → Int32} {fm2 : Nat → Int32} {se2 : Nat → Int32} {yr2 : Int32} (h : GQ q G P yr jw br st ag fm se ac rows sz who beh sjw ob rs ce wl sl rain wit sit ik kG kP kyr kjw kbr kst kag kfm kse kac krows ksz kwho kbeh ksjw) (e : (r, ac2, jw2, br2, st2, ag2, fm2, se2, yr2) = m_G_undo yr jw br st ag fm se ac rows) (hx : XM_undo q c' r' q') : c' = 0 ∧ r = r' ∧ GQ q' G P yr2 jw2 br2 st2 ag2 fm2 se2 ac2 rows sz who beh sjw ob rs ce wl sl rain wit sit ik kG kP kyr kjw kbr kst kag kfm kse kac krows ksz kwho kbeh ksjw := by
  obtain ⟨n, m, hA, hy, hyi, hac, hK, hS, hL, hw7, hs7, hR, hI⟩ := h
  obtain ⟨ex, f0, f1, f2, f3, f4, f13, f14, f15, f16, f17, f18, f19, f20, f21, y2, y3, y4⟩ := hx
  rw [← hy, ← hac] at ex
  have E1 : m_G_undo yr jw br st ag fm se ac rows = (if ac = 0 then (-1, ac, jw, br, st, ag, fm, se, yr) else uy_C8 (m_Acts_takeBack ac rows yr jw br st ag fm se) (fun x5 x6 f7 f8 f9 f10 f11 f12 => (x5, x5, f7, f8, f9, f10, f11, f12, x6))) := rfl
  have E2 : m_Model_undo yr ac (q 5) (q 6) (q 7) (q 8) (q 9) (q 10) (q 11) (q 12) (q 13) = (if ac = 0 then (-1, 0, ac, yr, q 5, q 6, q 7, q 8, q 9, q 10, q 11, q 12) else uy_C9 (m_Model_unpackP (q 5) (q 6) (q 7) (q 8) (q 9) (q 10) (q 11) (q 12) (q 13) ((65 : Int32) * (ac - 1))) (fun x7 f8 f9 f10 f11 f12 f13 f14 f15 => (ac - 1, 0, ac - 1, x7, f8, f9, f10, f11, f12, f13, f14, f15))) := rfl
  by_cases h0 : ac = 0
  · rw [E1, if_pos h0] at e; rw [E2, if_pos h0] at ex
    simp only [Prod.mk.injEq] at e; obtain ⟨rfl, rfl, rfl, rfl, rfl, rfl, rfl, rfl, rfl⟩ := e
    simp only [Prod.mk.injEq] at ex; obtain ⟨er, ec, u1, u0, o5, o6, o7, o8, o9, o10, o11, o12⟩ := ex
    unfold GQ; rw [f0, f1, f2, f3, f4, f13, f14, f15, f16, f17, f18, f19, f20, f21, y2, y3, y4, u1, u0, o5, o6, o7, o8, o9, o10, o11, o12]; exact ⟨ec, er.symm, ⟨n, m, hA, rfl, hyi, rfl, hK, hS, hL, hw7, hs7, hR, hI⟩⟩
  · obtain ⟨jw3, br3, st3, ag3, fm3, se3, jaw3, brow3, stn3, fc3, fh3, ag4, fm4, se4, yr3, t1, t2, t3, t4, t5⟩ := q_und (yr := yr) (jw := jw) (br := br) (st := st) (ag := ag) (fm := fm) (se := se) (jaw := q 5) (brow := q 6) (stn := q 7) (fc := q 8) (fh := q 9) (ag' := q 10) (fm' := q 11) (se' := q 12) hK h0
    rw [E1, if_neg h0, t1] at e; rw [t2] at ex
    dsimp only [uy_C8] at e
    simp only [Prod.mk.injEq] at e; obtain ⟨rfl, rfl, rfl, rfl, rfl, rfl, rfl, rfl, rfl⟩ := e
    simp only [Prod.mk.injEq] at ex; obtain ⟨er, ec, u1, u0, o5, o6, o7, o8, o9, o10, o11, o12⟩ := ex
    unfold GQ; rw [f0, f1, f2, f3, f4, f13, f14, f15, f16, f17, f18, f19, f20, f21, y2, y3, y4, u1, u0, o5, o6, o7, o8, o9, o10, o11, o12]; exact ⟨ec, er.symm, ⟨n, m, t3, rfl, t4, rfl, t5, hS, hL, hw7, hs7, hR, hI⟩⟩
theorem z_years {f_this_now_refused : Nat → Int32} {x_this_walk_satDown : Int32} {x_this_walk_state_gargoyles : Int32} {x_this_walk_state_people : Int32} {x_this_walk_state_year : Int32} {f_this_walk_state_jaw : Nat → Int32} {f_this_walk_state_brow : Nat → Int32} {f_this_walk_state_stone : Nat → Int32} {f_this_walk_state_age : Nat → Int32} {f_this_walk_state_family : Nat → Int32} {f_this_walk_state_seat : Nat → Int32} {f_this_walk_values : Nat → Int32} {f_this_walk_waiting : Nat → Int32} {f_this_now_refused2 : Nat → Int32} {rows2 : Nat → Int32} {ac2 : Int32} {x_this_walk_state_gargoyles2 : Int32} {x_this_walk_state_people2 : Int32} {x_this_walk_state_year2 : Int32} {x_this_walk_satDown2 : Int32} {f_this_walk_state_jaw2 : Nat → Int32} {f_this_walk_state_brow2 : Nat → Int32} {f_this_walk_state_stone2 : Nat → Int32} {f_this_walk_state_age2 : Nat → Int32} {f_this_walk_state_family2 : Nat → Int32} {f_this_walk_state_seat2 : Nat → Int32} {f_this_walk_values2 : Nat → Int32} {f_this_walk_waiting2 : Nat → Int32} {G2 : Int32} {P2 : Int32} {yr2 : Int32} {jw2 : Nat → Int32} {br2 : Nat → Int32} {st2 : Nat → Int32} {ag2 : Nat → Int32} {fm2 : Nat → Int32} {se2 : Nat → Int32} (h : GQ q G P yr jw br st ag fm se ac rows sz who beh sjw ob rs ce wl sl rain wit sit ik kG kP kyr kjw kbr kst kag kfm kse kac krows ksz kwho kbeh ksjw) (e : (r, f_this_now_refused2, rows2, ac2, x_this_walk_state_gargoyles2, x_this_walk_state_people2, x_this_walk_state_year2, x_this_walk_satDown2, f_this_walk_state_jaw2, f_this_walk_state_brow2, f_this_walk_state_stone2, f_this_walk_state_age2, f_this_walk_state_family2, f_this_walk_state_seat2, f_this_walk_values2, f_this_walk_waiting2, G2, P2, yr2, jw2, br2, st2, ag2, fm2, se2) = m_G_years ob rs ce rain wl wit sl sit G P yr jw br st ag fm se ac rows f_this_now_refused x_this_walk_satDown x_this_walk_state_gargoyles x_this_walk_state_people x_this_walk_state_year f_this_walk_state_jaw f_this_walk_state_brow f_this_walk_state_stone f_this_walk_state_age f_this_walk_state_family f_this_walk_state_seat f_this_walk_values f_this_walk_waiting p1) (hx : XM_years q p1 c' r' q') : c' = 0 ∧ r = r' ∧ GQ q' G2 P2 yr2 jw2 br2 st2 ag2 fm2 se2 ac2 rows2 sz who beh sjw ob rs ce wl sl rain wit sit ik kG kP kyr kjw kbr kst kag kfm kse kac krows ksz kwho kbeh ksjw := by
  obtain ⟨n, m, hA, hy, hyi, hac, hK, hS, hL, hw7, hs7, hR, hI⟩ := h
  obtain ⟨x_this_satDown, f_this_status, f_this_asked, f_this_stack, f_this_status2, f_this_asked2, f_this_stack2, x_this_satDown2, ex, f0, f1, f2, f3, f4, f11, f14, f15, f16, f17, f18, f19, f20, f21, y2, y3, y4⟩ := hx
  rw [← hy, ← hac] at ex
  have e1 : (1 : Int32).toInt = 1 := rfl
  have e20 : (20 : Int32).toInt = 20 := rfl
  have e999 : (999 : Int32).toInt = 999 := rfl
  have l1 : (1 : Int64).toInt = 1 := by decide
  have l20 : (20 : Int64).toInt = 20 := by decide
  have h10 : ¬ ((1 : Int32) = 0) := by decide
  have y0 := hyi.1; have y9 := hyi.2
  delta m_G_years m_G_refuseAct at e
  dsimp only [uy_L, uy_C1, uy_C2, uy_C3, uy_C4, uy_C5, uy_C6, uy_C7, uy_C8, uy_C9, uy_C10, uy_C11, uy_C12, uy_C13, uy_C14, uy_C15, uy_C16, uy_C17, uy_C18, uy_C19, uy_C20] at e
  delta m_Model_years m_Model_years_k29 m_Model_refuse at ex
  dsimp only [uy_L, uy_C1, uy_C2, uy_C3, uy_C4, uy_C5, uy_C6, uy_C7, uy_C8, uy_C9, uy_C10, uy_C11, uy_C12, uy_C13, uy_C14, uy_C15, uy_C16, uy_C17, uy_C18, uy_C19, uy_C20] at ex
  by_cases g1 : p1 < 1
  · have := lt_i g1
    rw [if_pos g1] at e; rw [ii_0 (p := p1) l1 l20 (by omega), if_pos rfl] at ex
    simp only [Prod.mk.injEq] at e; obtain ⟨rfl, rfl, rfl, rfl, rfl, rfl, rfl, rfl, rfl, rfl, rfl, rfl, rfl, rfl, rfl, rfl, rfl, rfl, rfl, rfl, rfl, rfl, rfl, rfl, rfl⟩ := e
    simp only [Prod.mk.injEq] at ex; obtain ⟨er, ec, -, o13, u1, -, -, o7, o5, o6, o10, o8, o9, o12, -, u0⟩ := ex
    unfold GQ; rw [f0, f1, f2, f3, f4, f11, f14, f15, f16, f17, f18, f19, f20, f21, y2, y3, y4, o13, u1, o7, o5, o6, o10, o8, o9, o12, u0]; exact ⟨ec, er.symm, ⟨n, m, hA, rfl, hyi, rfl, hK, hS, hL, hw7, hs7, hR, hI⟩⟩
  · have := nlt_i g1
    rw [if_neg g1] at e
    by_cases g2 : (20 : Int32) < p1
    · have := lt_i g2
      rw [if_pos g2] at e; rw [ii_0 (p := p1) l1 l20 (by omega), if_pos rfl] at ex
      simp only [Prod.mk.injEq] at e; obtain ⟨rfl, rfl, rfl, rfl, rfl, rfl, rfl, rfl, rfl, rfl, rfl, rfl, rfl, rfl, rfl, rfl, rfl, rfl, rfl, rfl, rfl, rfl, rfl, rfl, rfl⟩ := e
      simp only [Prod.mk.injEq] at ex; obtain ⟨er, ec, -, o13, u1, -, -, o7, o5, o6, o10, o8, o9, o12, -, u0⟩ := ex
      unfold GQ; rw [f0, f1, f2, f3, f4, f11, f14, f15, f16, f17, f18, f19, f20, f21, y2, y3, y4, o13, u1, o7, o5, o6, o10, o8, o9, o12, u0]; exact ⟨ec, er.symm, ⟨n, m, hA, rfl, hyi, rfl, hK, hS, hL, hw7, hs7, hR, hI⟩⟩
    · have := nlt_i g2
      rw [if_neg g2] at e; rw [ii_1 (p := p1) l1 l20 (by omega), if_neg h10] at ex
      by_cases g3 : yr + p1 ≤ (999 : Int32)
      · have := le_i g3
        rw [iv_tadd (by omega) (by omega)] at this
        rw [if_pos g3] at e ex
        obtain ⟨k, hk⟩ : ∃ k : Nat, p1.toInt = (k : Int) := ⟨p1.toInt.toNat, by omega⟩
        obtain ⟨rows3, past3, ac3, w1, w2, w3⟩ := q_keep hA hyi hK
        have hB : m_Walk_begin f_this_walk_state_jaw f_this_walk_state_brow f_this_walk_state_stone f_this_walk_state_age f_this_walk_state_family f_this_walk_state_seat G P yr jw br st ag fm se = (G, P, yr, 0, (va_cpy jw f_this_walk_state_jaw 0 0 16), (va_cpy br f_this_walk_state_brow 0 0 16), (va_cpy st f_this_walk_state_stone 0 0 8), (va_cpy ag f_this_walk_state_age 0 0 8), (va_cpy fm f_this_walk_state_family 0 0 8), (va_cpy se f_this_walk_state_seat 0 0 8)) := rfl
        have hA2 := sq_A_c (jw2 := (va_cpy jw f_this_walk_state_jaw 0 0 16)) (br2 := (va_cpy br f_this_walk_state_brow 0 0 16)) (st2 := (va_cpy st f_this_walk_state_stone 0 0 8)) (ag2 := (va_cpy ag f_this_walk_state_age 0 0 8)) (fm2 := (va_cpy fm f_this_walk_state_family 0 0 8)) (se2 := (va_cpy se f_this_walk_state_seat 0 0 8)) hA (fun z hz => ⟨sb_cpy0 hz, sb_cpy0 hz⟩) (fun z hz => ⟨sb_cpy0 hz, sb_cpy0 hz, sb_cpy0 hz, sb_cpy0 hz⟩) (fun _ _ => ⟨rfl, rfl, rfl⟩) (fun _ _ => ⟨rfl, rfl, rfl, rfl, rfl⟩)
        obtain ⟨jw3, br3, st3, ag3, se3, V3, W3, A3, S3, stn3, jaw3, brow3, age3, fc3, fh3, se4, sd3, yr3, v1, v2, v3, v4⟩ := q_yrs (sd := 0) (dc := x_this_satDown) (V := f_this_walk_values) (W := f_this_walk_waiting) (A := f_this_asked) (S := f_this_stack) (N := p1) (yr := yr) (k := k) hA2 hL hR hyi.1 hk (by omega)
        rw [Int32.zero_add] at v2
        rw [w1, hB] at e; dsimp only at e; rw [v1] at e; dsimp only at e
        rw [w2, v2] at ex; dsimp only at ex
        have hC : ∀ z : Int32, m_State_copyFrom jw br st ag fm se G P z jw3 br3 st3 ag3 (va_cpy fm f_this_walk_state_family 0 0 8) se3 = (G, P, z, va_cpy jw3 jw 0 0 16, va_cpy br3 br 0 0 16, va_cpy st3 st 0 0 8, va_cpy ag3 ag 0 0 8, va_cpy (va_cpy fm f_this_walk_state_family 0 0 8) fm 0 0 8, va_cpy se3 se 0 0 8) := fun _ => rfl
        rw [hC] at e; dsimp only at e
        have hA4 := sq_A_c (jw2 := va_cpy jw3 jw 0 0 16) (br2 := va_cpy br3 br 0 0 16) (st2 := va_cpy st3 st 0 0 8) (ag2 := va_cpy ag3 ag 0 0 8) (fm2 := va_cpy (va_cpy fm f_this_walk_state_family 0 0 8) fm 0 0 8) (se2 := va_cpy se3 se 0 0 8) v3 (fun z hz => ⟨sb_cpy0 hz, sb_cpy0 hz⟩) (fun z hz => ⟨sb_cpy0 hz, sb_cpy0 hz, sb_cpy0 hz, sb_cpy0 hz⟩) (fun _ _ => ⟨rfl, rfl, rfl⟩) (fun _ _ => ⟨rfl, rfl, rfl, rfl, rfl⟩)
        simp only [Prod.mk.injEq] at e; obtain ⟨rfl, rfl, rfl, rfl, rfl, rfl, rfl, rfl, rfl, rfl, rfl, rfl, rfl, rfl, rfl, rfl, rfl, rfl, rfl, rfl, rfl, rfl, rfl, rfl, rfl⟩ := e
        simp only [Prod.mk.injEq] at ex; obtain ⟨er, ec, -, o13, u1, -, -, o7, o5, o6, o10, o8, o9, o12, -, u0⟩ := ex
        unfold GQ; rw [f0, f1, f2, f3, f4, f11, f14, f15, f16, f17, f18, f19, f20, f21, y2, y3, y4, o13, u1, o7, o5, o6, o10, o8, o9, o12, u0]; exact ⟨ec, er.symm, ⟨n, m, hA4, rfl, ⟨by omega, by omega⟩, rfl, w3, hS, hL, hw7, hs7, hR, hI⟩⟩
      · rw [if_neg g3] at e ex
        simp only [Prod.mk.injEq] at e; obtain ⟨rfl, rfl, rfl, rfl, rfl, rfl, rfl, rfl, rfl, rfl, rfl, rfl, rfl, rfl, rfl, rfl, rfl, rfl, rfl, rfl, rfl, rfl, rfl, rfl, rfl⟩ := e
        simp only [Prod.mk.injEq] at ex; obtain ⟨er, ec, -, o13, u1, -, -, o7, o5, o6, o10, o8, o9, o12, -, u0⟩ := ex
        unfold GQ; rw [f0, f1, f2, f3, f4, f11, f14, f15, f16, f17, f18, f19, f20, f21, y2, y3, y4, o13, u1, o7, o5, o6, o10, o8, o9, o12, u0]; exact ⟨ec, er.symm, ⟨n, m, hA, rfl, hyi, rfl, hK, hS, hL, hw7, hs7, hR, hI⟩⟩
theorem z_cutA {f_this_now_refused : Nat → Int32} {f_this_now_refused2 : Nat → Int32} {rows2 : Nat → Int32} {ac2 : Int32} {jw2 : Nat → Int32} {br2 : Nat → Int32} {st2 : Nat → Int32} (h : GQ q G P yr jw br st ag fm se ac rows sz who beh sjw ob rs ce wl sl rain wit sit ik kG kP kyr kjw kbr kst kag kfm kse kac krows ksz kwho kbeh ksjw) (hpa : (0 ≤ p1.toInt ∧ p1.toInt < G.toInt)) (e : (r, f_this_now_refused2, rows2, ac2, jw2, br2, st2) = m_G_cutA yr jw br st ag fm se ac rows f_this_now_refused p1 p2 p3) (hx : XM_cut q p1 p2 p3 c' r' q') : c' = 0 ∧ r = r' ∧ GQ q' G P yr jw2 br2 st2 ag fm se ac2 rows2 sz who beh sjw ob rs ce wl sl rain wit sit ik kG kP kyr kjw kbr kst kag kfm kse kac krows ksz kwho kbeh ksjw := by
  obtain ⟨n, m, hA, hy, hyi, hac, hK, hS, hL, hw7, hs7, hR, hI⟩ := h
  obtain ⟨f_this_status, f_this_status2, ex, f0, f1, f2, f3, f4, f8, f9, f10, f11, f12, f14, f15, f16, f17, f18, f19, f20, f21, y0, y2, y3, y4⟩ := hx
  rw [← hy, ← hac] at ex
  obtain ⟨b1, b2, b3, b4⟩ := sq_A_b hA
  have hG0 := hA.1; have hP0 := hA.2.1
  have h10 : ¬ ((1 : Int32) = 0) := by decide
  have e0 : (0 : Int32).toInt = 0 := rfl
  have e9 : (9 : Int32).toInt = 9 := rfl
  have l0 : (0 : Int64).toInt = 0 := by decide
  have l9 : (9 : Int64).toInt = 9 := by decide
  delta m_G_cutA m_G_refuseAct at e
  dsimp only [uy_L, uy_C1, uy_C2, uy_C3, uy_C4, uy_C5, uy_C6, uy_C7, uy_C8, uy_C9, uy_C10, uy_C11, uy_C12, uy_C13, uy_C14, uy_C15, uy_C16, uy_C17, uy_C18, uy_C19, uy_C20] at e
  delta m_Model_cut m_Model_cut_k43 m_Model_refuse at ex
  dsimp only [uy_L, uy_C1, uy_C2, uy_C3, uy_C4, uy_C5, uy_C6, uy_C7, uy_C8, uy_C9, uy_C10, uy_C11, uy_C12, uy_C13, uy_C14, uy_C15, uy_C16, uy_C17, uy_C18, uy_C19, uy_C20] at ex
  rw [q_isS hG0 b1, if_pos hpa, if_neg h10] at ex
  by_cases g1 : p2 < 0
  · have := lt_i g1
    rw [if_pos g1] at e; rw [ii_0 (p := p2) l0 l9 (by omega), if_pos rfl] at ex
    simp only [Prod.mk.injEq] at e; obtain ⟨rfl, rfl, rfl, rfl, rfl, rfl, rfl⟩ := e
    simp only [Prod.mk.injEq] at ex; obtain ⟨er, ec, -, o13, u1, o5, o6, o7⟩ := ex
    unfold GQ; rw [f0, f1, f2, f3, f4, f8, f9, f10, f11, f12, f14, f15, f16, f17, f18, f19, f20, f21, y0, y2, y3, y4, o13, u1, o5, o6, o7]; exact ⟨ec, er.symm, ⟨n, m, hA, hy, hyi, rfl, hK, hS, hL, hw7, hs7, hR, hI⟩⟩
  · have := nlt_i g1
    rw [if_neg g1] at e
    by_cases g2 : (9 : Int32) < p2
    · have := lt_i g2
      rw [if_pos g2] at e; rw [ii_0 (p := p2) l0 l9 (by omega), if_pos rfl] at ex
      simp only [Prod.mk.injEq] at e; obtain ⟨rfl, rfl, rfl, rfl, rfl, rfl, rfl⟩ := e
      simp only [Prod.mk.injEq] at ex; obtain ⟨er, ec, -, o13, u1, o5, o6, o7⟩ := ex
      unfold GQ; rw [f0, f1, f2, f3, f4, f8, f9, f10, f11, f12, f14, f15, f16, f17, f18, f19, f20, f21, y0, y2, y3, y4, o13, u1, o5, o6, o7]; exact ⟨ec, er.symm, ⟨n, m, hA, hy, hyi, rfl, hK, hS, hL, hw7, hs7, hR, hI⟩⟩
    · have := nlt_i g2
      rw [if_neg g2] at e; rw [ii_1 (p := p2) l0 l9 (by omega), if_neg h10] at ex
      by_cases g3 : p3 < 0
      · have := lt_i g3
        rw [if_pos g3] at e; rw [ii_0 (p := p3) l0 l9 (by omega), if_pos rfl] at ex
        simp only [Prod.mk.injEq] at e; obtain ⟨rfl, rfl, rfl, rfl, rfl, rfl, rfl⟩ := e
        simp only [Prod.mk.injEq] at ex; obtain ⟨er, ec, -, o13, u1, o5, o6, o7⟩ := ex
        unfold GQ; rw [f0, f1, f2, f3, f4, f8, f9, f10, f11, f12, f14, f15, f16, f17, f18, f19, f20, f21, y0, y2, y3, y4, o13, u1, o5, o6, o7]; exact ⟨ec, er.symm, ⟨n, m, hA, hy, hyi, rfl, hK, hS, hL, hw7, hs7, hR, hI⟩⟩
      · have := nlt_i g3
        rw [if_neg g3] at e
        by_cases g4 : p3 ≤ (9 : Int32)
        · have := le_i g4
          rw [if_pos g4] at e; rw [ii_1 (p := p3) l0 l9 (by omega), if_neg h10] at ex
          obtain ⟨rows3, past3, ac3, w1, w2, w3⟩ := q_keep hA hyi hK
          obtain ⟨jw3, br3, st3, jaw3, brow3, stn3, v1, v2, v3⟩ := q_car hA hpa (show 0 ≤ p2.toInt ∧ p2.toInt ≤ 9 by omega) (show 0 ≤ p3.toInt ∧ p3.toInt ≤ 9 by omega)
          obtain ⟨k, hk⟩ : ∃ k : Nat, p1.toInt = (k : Int) := ⟨p1.toInt.toNat, by omega⟩
          have hst : st p1.toNatClampNeg = q 7 p1.toNatClampNeg := by
            obtain ⟨-, -, -, -, -, -, hs, -⟩ := hA
            rw [ct_n hk]; exact (hs k (by omega)).2.2
          rw [w1, v1] at e; dsimp only at e; rw [w2, v2] at ex; dsimp only at ex
          simp only [Prod.mk.injEq] at e; obtain ⟨rfl, rfl, rfl, rfl, rfl, rfl, rfl⟩ := e
          simp only [Prod.mk.injEq] at ex; obtain ⟨er, ec, -, o13, u1, o5, o6, o7⟩ := ex
          unfold GQ; rw [f0, f1, f2, f3, f4, f8, f9, f10, f11, f12, f14, f15, f16, f17, f18, f19, f20, f21, y0, y2, y3, y4, o13, u1, o5, o6, o7]; exact ⟨ec, hst.trans er.symm, ⟨n, m, v3, hy, hyi, rfl, w3, hS, hL, hw7, hs7, hR, hI⟩⟩
        · have := nle_i g4
          rw [if_neg g4] at e; rw [ii_0 (p := p3) l0 l9 (by omega), if_pos rfl] at ex
          simp only [Prod.mk.injEq] at e; obtain ⟨rfl, rfl, rfl, rfl, rfl, rfl, rfl⟩ := e
          simp only [Prod.mk.injEq] at ex; obtain ⟨er, ec, -, o13, u1, o5, o6, o7⟩ := ex
          unfold GQ; rw [f0, f1, f2, f3, f4, f8, f9, f10, f11, f12, f14, f15, f16, f17, f18, f19, f20, f21, y0, y2, y3, y4, o13, u1, o5, o6, o7]; exact ⟨ec, er.symm, ⟨n, m, hA, hy, hyi, rfl, hK, hS, hL, hw7, hs7, hR, hI⟩⟩
theorem z_callA {f_this_now_refused : Nat → Int32} {f_this_now_refused2 : Nat → Int32} {rows2 : Nat → Int32} {ac2 : Int32} {se2 : Nat → Int32} (h : GQ q G P yr jw br st ag fm se ac rows sz who beh sjw ob rs ce wl sl rain wit sit ik kG kP kyr kjw kbr kst kag kfm kse kac krows ksz kwho kbeh ksjw) (hpa : (0 ≤ p1.toInt ∧ p1.toInt < P.toInt)) (e : (r, f_this_now_refused2, rows2, ac2, se2) = m_G_callA yr jw br st ag fm se ac rows f_this_now_refused p1) (hx : XM_call q p1 c' r' q') : c' = 0 ∧ r = r' ∧ GQ q' G P yr jw br st ag fm se2 ac2 rows2 sz who beh sjw ob rs ce wl sl rain wit sit ik kG kP kyr kjw kbr kst kag kfm kse kac krows ksz kwho kbeh ksjw := by
  obtain ⟨n, m, hA, hy, hyi, hac, hK, hS, hL, hw7, hs7, hR, hI⟩ := h
  obtain ⟨f_this_status, f_this_status2, ex, f0, f1, f2, f3, f4, f5, f6, f7, f8, f9, f10, f11, f14, f15, f16, f17, f18, f19, f20, f21, y0, y2, y3, y4⟩ := hx
  rw [← hy, ← hac] at ex
  obtain ⟨b1, b2, b3, b4⟩ := sq_A_b hA
  have hG0 := hA.1; have hP0 := hA.2.1
  have h10 : ¬ ((1 : Int32) = 0) := by decide
  obtain ⟨k, hk⟩ : ∃ k : Nat, p1.toInt = (k : Int) := ⟨p1.toInt.toNat, by omega⟩
  have hse : se p1.toNatClampNeg = q 12 p1.toNatClampNeg := by
    obtain ⟨-, -, -, -, -, -, -, hs, -⟩ := hA
    rw [ct_n hk]; exact (hs k (by omega)).2.2.2.2
  delta m_G_callA m_G_refuseAct at e
  dsimp only [uy_L, uy_C1, uy_C2, uy_C3, uy_C4, uy_C5, uy_C6, uy_C7, uy_C8, uy_C9, uy_C10, uy_C11, uy_C12, uy_C13, uy_C14, uy_C15, uy_C16, uy_C17, uy_C18, uy_C19, uy_C20] at e
  delta m_Model_call m_Model_refuse at ex
  dsimp only [uy_L, uy_C1, uy_C2, uy_C3, uy_C4, uy_C5, uy_C6, uy_C7, uy_C8, uy_C9, uy_C10, uy_C11, uy_C12, uy_C13, uy_C14, uy_C15, uy_C16, uy_C17, uy_C18, uy_C19, uy_C20] at ex
  rw [q_isP hP0 b3, if_pos hpa, if_neg h10, ← hse] at ex
  by_cases g1 : se p1.toNatClampNeg = -1
  · rw [if_pos g1] at e ex
    simp only [Prod.mk.injEq] at e; obtain ⟨rfl, rfl, rfl, rfl, rfl⟩ := e
    simp only [Prod.mk.injEq] at ex; obtain ⟨er, ec, -, o13, u1, o12⟩ := ex
    unfold GQ; rw [f0, f1, f2, f3, f4, f5, f6, f7, f8, f9, f10, f11, f14, f15, f16, f17, f18, f19, f20, f21, y0, y2, y3, y4, o13, u1, o12]; exact ⟨ec, er.symm, ⟨n, m, hA, hy, hyi, rfl, hK, hS, hL, hw7, hs7, hR, hI⟩⟩
  · rw [if_neg g1] at e ex
    obtain ⟨rows3, past3, ac3, w1, w2, w3⟩ := q_keep hA hyi hK
    rw [w1] at e; dsimp only at e; rw [w2] at ex; dsimp only at ex
    simp only [Prod.mk.injEq] at e; obtain ⟨rfl, rfl, rfl, rfl, rfl⟩ := e
    simp only [Prod.mk.injEq] at ex; obtain ⟨er, ec, -, o13, u1, o12⟩ := ex
    unfold GQ; rw [f0, f1, f2, f3, f4, f5, f6, f7, f8, f9, f10, f11, f14, f15, f16, f17, f18, f19, f20, f21, y0, y2, y3, y4, o13, u1, o12]; exact ⟨ec, er.symm, ⟨n, m, (q_sea1 hA hpa (Or.inl rfl)), hy, hyi, rfl, w3, hS, hL, hw7, hs7, hR, hI⟩⟩
theorem z_liftA {f_this_now_refused : Nat → Int32} {f_this_now_refused2 : Nat → Int32} {rows2 : Nat → Int32} {ac2 : Int32} {se2 : Nat → Int32} (h : GQ q G P yr jw br st ag fm se ac rows sz who beh sjw ob rs ce wl sl rain wit sit ik kG kP kyr kjw kbr kst kag kfm kse kac krows ksz kwho kbeh ksjw) (hpa : (0 ≤ p1.toInt ∧ p1.toInt < P.toInt) ∧ (0 ≤ p2.toInt ∧ p2.toInt < G.toInt)) (e : (r, f_this_now_refused2, rows2, ac2, se2) = m_G_liftA P yr jw br st ag fm se ac rows f_this_now_refused p1 p2) (hx : XM_lift q p1 p2 c' r' q') : c' = 0 ∧ r = r' ∧ GQ q' G P yr jw br st ag fm se2 ac2 rows2 sz who beh sjw ob rs ce wl sl rain wit sit ik kG kP kyr kjw kbr kst kag kfm kse kac krows ksz kwho kbeh ksjw := by
  obtain ⟨n, m, hA, hy, hyi, hac, hK, hS, hL, hw7, hs7, hR, hI⟩ := h
  obtain ⟨f_this_status, f_this_status2, ex, f0, f1, f2, f3, f4, f5, f6, f7, f8, f9, f10, f11, f14, f15, f16, f17, f18, f19, f20, f21, y0, y2, y3, y4⟩ := hx
  rw [← hy, ← hac] at ex
  obtain ⟨b1, b2, b3, b4⟩ := sq_A_b hA
  have hG0 := hA.1; have hP0 := hA.2.1
  have h10 : ¬ ((1 : Int32) = 0) := by decide
  obtain ⟨k, hk⟩ : ∃ k : Nat, p1.toInt = (k : Int) := ⟨p1.toInt.toNat, by omega⟩
  have hse : se p1.toNatClampNeg = q 12 p1.toNatClampNeg := by
    obtain ⟨-, -, -, -, -, -, -, hs, -⟩ := hA
    rw [ct_n hk]; exact (hs k (by omega)).2.2.2.2
  have hsi : m_State_sitterAt P se p2 = m_Model_sitterOf (q 0) (q 12) p2 := by
    obtain ⟨-, hP, -, -, -, -, -, hs, -⟩ := hA
    exact q_sit hP (fun z hz => (hs z hz).2.2.2.2)
  delta m_G_liftA m_G_refuseAct at e
  dsimp only [uy_L, uy_C1, uy_C2, uy_C3, uy_C4, uy_C5, uy_C6, uy_C7, uy_C8, uy_C9, uy_C10, uy_C11, uy_C12, uy_C13, uy_C14, uy_C15, uy_C16, uy_C17, uy_C18, uy_C19, uy_C20] at e
  delta m_Model_lift m_Model_lift_k46 at ex
  dsimp only [uy_L, uy_C1, uy_C2, uy_C3, uy_C4, uy_C5, uy_C6, uy_C7, uy_C8, uy_C9, uy_C10, uy_C11, uy_C12, uy_C13, uy_C14, uy_C15, uy_C16, uy_C17, uy_C18, uy_C19, uy_C20] at ex
  rw [q_isP hP0 b3, if_pos hpa.1, if_neg h10, q_isS hG0 b1, if_pos hpa.2, if_neg h10, ← hse] at ex
  rw [hsi] at e
  by_cases g1 : se p1.toNatClampNeg = -1
  · rw [if_pos g1] at e ex
    by_cases g2 : m_Model_sitterOf (q 0) (q 12) p2 = -1
    · rw [if_pos g2] at e ex
      obtain ⟨rows3, past3, ac3, w1, w2, w3⟩ := q_keep hA hyi hK
      rw [w1] at e; dsimp only at e; rw [w2] at ex; dsimp only at ex
      simp only [Prod.mk.injEq] at e; obtain ⟨rfl, rfl, rfl, rfl, rfl⟩ := e
      simp only [Prod.mk.injEq] at ex; obtain ⟨er, ec, -, o13, u1, o12⟩ := ex
      unfold GQ; rw [f0, f1, f2, f3, f4, f5, f6, f7, f8, f9, f10, f11, f14, f15, f16, f17, f18, f19, f20, f21, y0, y2, y3, y4, o13, u1, o12]; exact ⟨ec, er.symm, ⟨n, m, (q_sea1 hA hpa.1 (Or.inr ⟨hpa.2.1, hpa.2.2, q_sitZ hP0 hA.2.2.2.1 g2⟩)), hy, hyi, rfl, w3, hS, hL, hw7, hs7, hR, hI⟩⟩
    · rw [if_neg g2] at e ex
      simp only [Prod.mk.injEq] at e; obtain ⟨rfl, rfl, rfl, rfl, rfl⟩ := e
      simp only [Prod.mk.injEq] at ex; obtain ⟨er, ec, -, o13, u1, o12⟩ := ex
      unfold GQ; rw [f0, f1, f2, f3, f4, f5, f6, f7, f8, f9, f10, f11, f14, f15, f16, f17, f18, f19, f20, f21, y0, y2, y3, y4, o13, u1, o12]; exact ⟨ec, er.symm, ⟨n, m, hA, hy, hyi, rfl, hK, hS, hL, hw7, hs7, hR, hI⟩⟩
  · rw [if_neg g1] at e ex
    simp only [Prod.mk.injEq] at e; obtain ⟨rfl, rfl, rfl, rfl, rfl⟩ := e
    simp only [Prod.mk.injEq] at ex; obtain ⟨er, ec, -, o13, u1, o12⟩ := ex
    unfold GQ; rw [f0, f1, f2, f3, f4, f5, f6, f7, f8, f9, f10, f11, f14, f15, f16, f17, f18, f19, f20, f21, y0, y2, y3, y4, o13, u1, o12]; exact ⟨ec, er.symm, ⟨n, m, hA, hy, hyi, rfl, hK, hS, hL, hw7, hs7, hR, hI⟩⟩
theorem z_leaveA {f_this_now_refused : Nat → Int32} {f_this_now_refused2 : Nat → Int32} {rows2 : Nat → Int32} {ac2 : Int32} {fm2 : Nat → Int32} (h : GQ q G P yr jw br st ag fm se ac rows sz who beh sjw ob rs ce wl sl rain wit sit ik kG kP kyr kjw kbr kst kag kfm kse kac krows ksz kwho kbeh ksjw) (hpa : (0 ≤ p1.toInt ∧ p1.toInt < P.toInt) ∧ (-1 ≤ p2.toInt ∧ p2.toInt < G.toInt)) (e : (r, f_this_now_refused2, rows2, ac2, fm2) = m_G_leaveA yr jw br st ag fm se ac rows f_this_now_refused p1 p2) (hx : XM_leave q p1 p2 c' r' q') : c' = 0 ∧ r = r' ∧ GQ q' G P yr jw br st ag fm2 se ac2 rows2 sz who beh sjw ob rs ce wl sl rain wit sit ik kG kP kyr kjw kbr kst kag kfm kse kac krows ksz kwho kbeh ksjw := by
  obtain ⟨n, m, hA, hy, hyi, hac, hK, hS, hL, hw7, hs7, hR, hI⟩ := h
  obtain ⟨f_this_status, f_this_status2, ex, f0, f1, f2, f3, f4, f5, f6, f7, f8, f9, f10, f12, f14, f15, f16, f17, f18, f19, f20, f21, y0, y2, y3, y4⟩ := hx
  rw [← hy, ← hac] at ex
  obtain ⟨b1, b2, b3, b4⟩ := sq_A_b hA
  have hG0 := hA.1; have hP0 := hA.2.1
  have h10 : ¬ ((1 : Int32) = 0) := by decide
  obtain ⟨k, hk⟩ : ∃ k : Nat, p1.toInt = (k : Int) := ⟨p1.toInt.toNat, by omega⟩
  have hfm : fm p1.toNatClampNeg = q 11 p1.toNatClampNeg := by
    obtain ⟨-, -, -, -, -, -, -, hs, -⟩ := hA
    rw [ct_n hk]; exact (hs k (by omega)).2.2.2.1
  have lm : (-1 : Int64).toInt = -1 := by decide
  have eg : (q 0 0 - 1).toInt = G.toInt - 1 := by
    have e1 : (1 : Int32).toInt = 1 := rfl
    have hr := iv_rng G
    rw [hG0, iv_tsub (by omega) (by omega), e1]
  delta m_G_leaveA m_G_refuseAct at e
  dsimp only [uy_L, uy_C1, uy_C2, uy_C3, uy_C4, uy_C5, uy_C6, uy_C7, uy_C8, uy_C9, uy_C10, uy_C11, uy_C12, uy_C13, uy_C14, uy_C15, uy_C16, uy_C17, uy_C18, uy_C19, uy_C20] at e
  delta m_Model_leave at ex
  dsimp only [uy_L, uy_C1, uy_C2, uy_C3, uy_C4, uy_C5, uy_C6, uy_C7, uy_C8, uy_C9, uy_C10, uy_C11, uy_C12, uy_C13, uy_C14, uy_C15, uy_C16, uy_C17, uy_C18, uy_C19, uy_C20] at ex
  have hii : uy_ii p2.toInt64 (-1 : Int64) (q 0 0 - 1).toInt64 = 1 := ii_1 lm ((Int32.toInt_toInt64 _).trans eg) (by omega)
  have z0 : (0 : Int32).toNatClampNeg = 0 := rfl
  rw [q_isP hP0 b3, if_pos hpa.1, if_neg h10] at ex
  try rw [z0] at ex
  rw [hii, if_neg h10, ← hfm] at ex
  have e' : (r, f_this_now_refused2, rows2, ac2, fm2) = (if fm p1.toNatClampNeg = p2 then (-2, upd f_this_now_refused (1 : Int32).toNatClampNeg (f_this_now_refused (1 : Int32).toNatClampNeg + 1), rows, ac, fm) else (fm p1.toNatClampNeg, f_this_now_refused, (m_Acts_keep ac rows yr jw br st ag fm se).1, (m_Acts_keep ac rows yr jw br st ag fm se).2, upd fm p1.toNatClampNeg p2)) := by
    by_cases g0 : p2 = -1
    · rw [if_pos g0] at e; exact e
    · rw [if_neg g0] at e; exact e
  have e := e'
  by_cases g1 : fm p1.toNatClampNeg = p2
  · rw [if_pos g1] at e ex
    simp only [Prod.mk.injEq] at e; obtain ⟨rfl, rfl, rfl, rfl, rfl⟩ := e
    simp only [Prod.mk.injEq] at ex; obtain ⟨er, ec, -, o13, u1, o11⟩ := ex
    unfold GQ; rw [f0, f1, f2, f3, f4, f5, f6, f7, f8, f9, f10, f12, f14, f15, f16, f17, f18, f19, f20, f21, y0, y2, y3, y4, o13, u1, o11]; exact ⟨ec, er.symm, ⟨n, m, hA, hy, hyi, rfl, hK, hS, hL, hw7, hs7, hR, hI⟩⟩
  · rw [if_neg g1] at e ex
    obtain ⟨rows3, past3, ac3, w1, w2, w3⟩ := q_keep hA hyi hK
    rw [w1] at e; dsimp only at e; rw [w2] at ex; dsimp only at ex
    simp only [Prod.mk.injEq] at e; obtain ⟨rfl, rfl, rfl, rfl, rfl⟩ := e
    simp only [Prod.mk.injEq] at ex; obtain ⟨er, ec, -, o13, u1, o11⟩ := ex
    unfold GQ; rw [f0, f1, f2, f3, f4, f5, f6, f7, f8, f9, f10, f12, f14, f15, f16, f17, f18, f19, f20, f21, y0, y2, y3, y4, o13, u1, o11]; exact ⟨ec, er.symm, ⟨n, m, (q_fam1 hA hpa.1 hpa.2), hy, hyi, rfl, w3, hS, hL, hw7, hs7, hR, hI⟩⟩
theorem z_seeA {f_this_now_refused : Nat → Int32} {who2 : Nat → Int32} {beh2 : Nat → Int32} {sjw2 : Nat → Int32} {f_this_now_refused2 : Nat → Int32} {sz2 : Int32} (h : GQ q G P yr jw br st ag fm se ac rows sz who beh sjw ob rs ce wl sl rain wit sit ik kG kP kyr kjw kbr kst kag kfm kse kac krows ksz kwho kbeh ksjw) (hpa : (0 ≤ p1.toInt ∧ p1.toInt < P.toInt)) (e : (r, who2, beh2, sjw2, f_this_now_refused2, sz2) = m_G_seeA sz who beh sjw f_this_now_refused p1 p2 p3) (hx : XM_see q p1 p2 p3 c' r' q') : c' = 0 ∧ r = r' ∧ GQ q' G P yr jw br st ag fm se ac rows sz2 who2 beh2 sjw2 ob rs ce wl sl rain wit sit ik kG kP kyr kjw kbr kst kag kfm kse kac krows ksz kwho kbeh ksjw := by
  obtain ⟨n, m, hA, hy, hyi, hac, hK, hS, hL, hw7, hs7, hR, hI⟩ := h
  obtain ⟨f_this_status, f_this_status2, ex, f0, f1, f2, f3, f4, f5, f6, f7, f8, f9, f10, f11, f12, f13, f17, f18, f19, f20, f21, y0, y1, y3, y4⟩ := hx
  obtain ⟨b1, b2, b3, b4⟩ := sq_A_b hA
  have hG0 := hA.1; have hP0 := hA.2.1
  have h10 : ¬ ((1 : Int32) = 0) := by decide
  obtain ⟨s1, ⟨s2, s3⟩, s4⟩ := id hS
  have e0 : (0 : Int32).toInt = 0 := rfl
  have e1 : (1 : Int32).toInt = 1 := rfl
  have e8 : (8 : Int32).toInt = 8 := rfl
  have e9 : (9 : Int32).toInt = 9 := rfl
  have e20 : (20 : Int32).toInt = 20 := rfl
  have l0 : (0 : Int64).toInt = 0 := by decide
  have l9 : (9 : Int64).toInt = 9 := by decide
  have l20 : (20 : Int64).toInt = 20 := by decide
  delta m_G_seeA m_Seen_put at e
  dsimp only [uy_L, uy_C1, uy_C2, uy_C3, uy_C4, uy_C5, uy_C6, uy_C7, uy_C8, uy_C9, uy_C10, uy_C11, uy_C12, uy_C13, uy_C14, uy_C15, uy_C16, uy_C17, uy_C18, uy_C19, uy_C20] at e
  delta m_Model_see m_Model_see_k52 m_Model_refuse at ex
  dsimp only [uy_L, uy_C1, uy_C2, uy_C3, uy_C4, uy_C5, uy_C6, uy_C7, uy_C8, uy_C9, uy_C10, uy_C11, uy_C12, uy_C13, uy_C14, uy_C15, uy_C16, uy_C17, uy_C18, uy_C19, uy_C20] at ex
  rw [q_isP hP0 b3, if_pos hpa, if_neg h10, ← s1] at ex
  have bad : (p2 < 0 ∨ (20 : Int32) < p2 ∨ p3 < 0 ∨ (9 : Int32) < p3 ∨ ¬ sz < 8) → r = -1 ∧ who2 = who ∧ beh2 = beh ∧ sjw2 = sjw ∧ sz2 = sz := by
    intro w
    by_cases g1 : p2 < 0
    · rw [if_pos g1] at e; simp only [Prod.mk.injEq] at e; exact ⟨e.1, e.2.1, e.2.2.1, e.2.2.2.1, e.2.2.2.2.2⟩
    rw [if_neg g1] at e
    by_cases g2 : (20 : Int32) < p2
    · rw [if_pos g2] at e; simp only [Prod.mk.injEq] at e; exact ⟨e.1, e.2.1, e.2.2.1, e.2.2.2.1, e.2.2.2.2.2⟩
    rw [if_neg g2] at e
    by_cases g3 : p3 < 0
    · rw [if_pos g3] at e; simp only [Prod.mk.injEq] at e; exact ⟨e.1, e.2.1, e.2.2.1, e.2.2.2.1, e.2.2.2.2.2⟩
    rw [if_neg g3] at e
    by_cases g4 : (9 : Int32) < p3
    · rw [if_pos g4] at e; simp only [Prod.mk.injEq] at e; exact ⟨e.1, e.2.1, e.2.2.1, e.2.2.2.1, e.2.2.2.2.2⟩
    rw [if_neg g4] at e
    by_cases g5 : sz < 8
    · exfalso; rcases w with w | w | w | w | w
      · exact g1 w
      · exact g2 w
      · exact g3 w
      · exact g4 w
      · exact w g5
    · rw [if_neg g5] at e; simp only [Prod.mk.injEq] at e; exact ⟨e.1, e.2.1, e.2.2.1, e.2.2.2.1, e.2.2.2.2.2⟩
  by_cases g5 : sz = 8
  · rw [if_pos g5] at ex
    obtain ⟨d1, d2, d3, d4, d5⟩ := bad (Or.inr (Or.inr (Or.inr (Or.inr (fun w => by have := lt_i w; rw [g5] at this; omega)))))
    subst d2 d3 d4 d5
    simp only [Prod.mk.injEq] at ex; obtain ⟨er, ec, -, o14, o15, o16, u2⟩ := ex
    unfold GQ; rw [f0, f1, f2, f3, f4, f5, f6, f7, f8, f9, f10, f11, f12, f13, f17, f18, f19, f20, f21, y0, y1, y3, y4, o14, o15, o16, u2]; exact ⟨ec, d1.trans er.symm, ⟨n, m, hA, hy, hyi, hac, hK, ⟨rfl, hS.2⟩, hL, hw7, hs7, hR, hI⟩⟩
  · rw [if_neg g5] at ex
    have s8 : sz.toInt < 8 := by
      have : sz.toInt ≠ 8 := fun w => g5 (Int32.toInt_inj.mp w)
      omega
    by_cases g1 : 0 ≤ p2.toInt ∧ p2.toInt ≤ 20
    · rw [ii_1 (p := p2) l0 l20 g1, if_neg h10] at ex
      by_cases g3 : 0 ≤ p3.toInt ∧ p3.toInt ≤ 9
      · rw [ii_1 (p := p3) l0 l9 g3, if_neg h10] at ex
        clear bad
        rw [if_neg (show ¬ p2 < 0 from fun w => by have := lt_i w; omega), if_neg (show ¬ (20 : Int32) < p2 from fun w => by have := lt_i w; omega), if_neg (show ¬ p3 < 0 from fun w => by have := lt_i w; omega), if_neg (show ¬ (9 : Int32) < p3 from fun w => by have := lt_i w; omega), if_pos (show sz < 8 from ivlt (by omega)), if_neg (show ¬ (8 : Int32) ≤ sz from fun w => by have := le_i w; omega)] at e
        dsimp only at e
        simp only [Prod.mk.injEq] at e; obtain ⟨rfl, rfl, rfl, rfl, rfl, rfl⟩ := e
        simp only [Prod.mk.injEq] at ex; obtain ⟨er, ec, -, o14, o15, o16, u2⟩ := ex
        have ea : (sz + 1).toInt = sz.toInt + 1 := by rw [iv_tadd (by omega) (by omega), e1]
        have hS2 : sqS m (sz + 1) (upd who sz.toNatClampNeg p1) (upd beh sz.toNatClampNeg p2) (upd sjw sz.toNatClampNeg p3) (sz + 1) (upd (q 14) sz.toNatClampNeg p1) (upd (q 15) sz.toNatClampNeg p2) (upd (q 16) sz.toNatClampNeg p3) := by
          refine ⟨rfl, ⟨by omega, by omega⟩, fun j hj => ?_⟩
          by_cases w : j = sz.toNatClampNeg
          · rw [w, pk_us, pk_us, pk_us, pk_us, pk_us, pk_us]; exact ⟨rfl, rfl, rfl, ⟨hpa.1, by have hm9 := hA.2.2.2.1; have q9 := hpa.2; omega⟩, g1.1, g1.2⟩
          · simp only [pk_un w]
            have : sz.toNatClampNeg = sz.toInt.toNat := rfl
            exact s4 j (by omega)
        unfold GQ; rw [f0, f1, f2, f3, f4, f5, f6, f7, f8, f9, f10, f11, f12, f13, f17, f18, f19, f20, f21, y0, y1, y3, y4, o14, o15, o16, u2]; exact ⟨ec, er.symm, ⟨n, m, hA, hy, hyi, hac, hK, hS2, hL, hw7, hs7, hR, hI⟩⟩
      · rw [ii_0 (p := p3) l0 l9 g3, if_pos rfl] at ex
        obtain ⟨d1, d2, d3, d4, d5⟩ := bad (by
          by_cases w : p3 < 0
          · exact Or.inr (Or.inr (Or.inl w))
          · exact Or.inr (Or.inr (Or.inr (Or.inl (ivlt (by have := nlt_i w; omega))))))
        subst d2 d3 d4 d5
        simp only [Prod.mk.injEq] at ex; obtain ⟨er, ec, -, o14, o15, o16, u2⟩ := ex
        unfold GQ; rw [f0, f1, f2, f3, f4, f5, f6, f7, f8, f9, f10, f11, f12, f13, f17, f18, f19, f20, f21, y0, y1, y3, y4, o14, o15, o16, u2]; exact ⟨ec, d1.trans er.symm, ⟨n, m, hA, hy, hyi, hac, hK, ⟨rfl, hS.2⟩, hL, hw7, hs7, hR, hI⟩⟩
    · rw [ii_0 (p := p2) l0 l20 g1, if_pos rfl] at ex
      obtain ⟨d1, d2, d3, d4, d5⟩ := bad (by
        by_cases w : p2 < 0
        · exact Or.inl w
        · exact Or.inr (Or.inl (ivlt (by have := nlt_i w; omega))))
      subst d2 d3 d4 d5
      simp only [Prod.mk.injEq] at ex; obtain ⟨er, ec, -, o14, o15, o16, u2⟩ := ex
      unfold GQ; rw [f0, f1, f2, f3, f4, f5, f6, f7, f8, f9, f10, f11, f12, f13, f17, f18, f19, f20, f21, y0, y1, y3, y4, o14, o15, o16, u2]; exact ⟨ec, d1.trans er.symm, ⟨n, m, hA, hy, hyi, hac, hK, ⟨rfl, hS.2⟩, hL, hw7, hs7, hR, hI⟩⟩
theorem z_forget {sz2 : Int32} (h : GQ q G P yr jw br st ag fm se ac rows sz who beh sjw ob rs ce wl sl rain wit sit ik kG kP kyr kjw kbr kst kag kfm kse kac krows ksz kwho kbeh ksjw) (e : sz2 = m_G_forget) (hx : XM_forget q c' q') : c' = 0 ∧ GQ q' G P yr jw br st ag fm se ac rows sz2 who beh sjw ob rs ce wl sl rain wit sit ik kG kP kyr kjw kbr kst kag kfm kse kac krows ksz kwho kbeh ksjw := by
  obtain ⟨n, m, hA, hy, hyi, hac, hK, hS, hL, hw7, hs7, hR, hI⟩ := h
  obtain ⟨ex, f0, f1, f2, f3, f4, f5, f6, f7, f8, f9, f10, f11, f12, f13, f14, f15, f16, f17, f18, f19, f20, f21, y0, y1, y3, y4⟩ := hx
  delta m_Model_forget at ex
  delta m_G_forget at e
  subst e
  simp only [Prod.mk.injEq] at ex; obtain ⟨ec, u2⟩ := ex
  unfold GQ; rw [f0, f1, f2, f3, f4, f5, f6, f7, f8, f9, f10, f11, f12, f13, f14, f15, f16, f17, f18, f19, f20, f21, y0, y1, y3, y4, u2]; exact ⟨ec, ⟨n, m, hA, hy, hyi, hac, hK, ⟨rfl, ⟨by decide, by decide⟩, fun k hk => (z0_lt hk).elim⟩, hL, hw7, hs7, hR, hI⟩⟩
theorem z_image {f_this_now_refused : Nat → Int32} {f_this_kept_refused : Nat → Int32} {kG2 : Int32} {kP2 : Int32} {kyr2 : Int32} {kjw2 : Nat → Int32} {kbr2 : Nat → Int32} {kst2 : Nat → Int32} {kag2 : Nat → Int32} {kfm2 : Nat → Int32} {kse2 : Nat → Int32} {krows2 : Nat → Int32} {kac2 : Int32} {kwho2 : Nat → Int32} {kbeh2 : Nat → Int32} {ksjw2 : Nat → Int32} {ksz2 : Int32} {f_this_kept_refused2 : Nat → Int32} {ik2 : Int32} (h : GQ q G P yr jw br st ag fm se ac rows sz who beh sjw ob rs ce wl sl rain wit sit ik kG kP kyr kjw kbr kst kag kfm kse kac krows ksz kwho kbeh ksjw) (e : (kG2, kP2, kyr2, kjw2, kbr2, kst2, kag2, kfm2, kse2, krows2, kac2, kwho2, kbeh2, ksjw2, ksz2, f_this_kept_refused2, ik2) = m_G_image G P yr jw br st ag fm se ac rows sz who beh sjw f_this_now_refused kjw kbr kst kag kfm kse krows kwho kbeh ksjw f_this_kept_refused) (hx : XM_image q c' q') : c' = 0 ∧ ik2 = 1 ∧ GQ q' G P yr jw br st ag fm se ac rows sz who beh sjw ob rs ce wl sl rain wit sit ik2 kG2 kP2 kyr2 kjw2 kbr2 kst2 kag2 kfm2 kse2 kac2 krows2 ksz2 kwho2 kbeh2 ksjw2 := by
  obtain ⟨n, m, hA, hy, hyi, hac, hK, hS, hL, hw7, hs7, hR, hI⟩ := h
  obtain ⟨f_this_status, f_this_statusThen, x_this_hasImage2, f_this_statusThen2, ex, f0, f1, f2, f3, f4, f5, f6, f7, f8, f9, f10, f11, f12, f13, f14, f15, f16, y0, y1, y2⟩ := hx
  delta m_Model_image at ex
  dsimp only [uy_L, uy_C1, uy_C2, uy_C3, uy_C4, uy_C5, uy_C6, uy_C7, uy_C8, uy_C9, uy_C10, uy_C11, uy_C12, uy_C13, uy_C14, uy_C15, uy_C16, uy_C17, uy_C18, uy_C19, uy_C20] at ex
  delta m_G_image m_Memory_copyFrom m_State_copyFrom m_Acts_copyFrom m_Seen_copyFrom at e
  dsimp only [uy_L, uy_C1, uy_C2, uy_C3, uy_C4, uy_C5, uy_C6, uy_C7, uy_C8, uy_C9, uy_C10, uy_C11, uy_C12, uy_C13, uy_C14, uy_C15, uy_C16, uy_C17, uy_C18, uy_C19, uy_C20] at e
  obtain ⟨s1, s2, s4⟩ := id hS
  have hk1 := hK.1.1; have hk2 := hK.1.2; have e65 : (65 : Int32).toInt = 65 := rfl
  have hz : ((0 : Int32).toNatClampNeg = 0) := rfl
  have ha : (ac * 65).toNatClampNeg = 65 * ac.toInt.toNat := by
    show (ac * 65).toInt.toNat = _
    rw [ct_mul (k := ac.toInt.toNat) (c := (65 : Int32)) (n := 65) (by omega) rfl (by omega)]; omega
  have hA2 := sq_A_c (jw2 := va_cpy jw kjw 0 0 16) (br2 := va_cpy br kbr 0 0 16) (st2 := va_cpy st kst 0 0 8) (ag2 := va_cpy ag kag 0 0 8) (fm2 := va_cpy fm kfm 0 0 8) (se2 := va_cpy se kse 0 0 8) hA (fun z hz => ⟨sb_cpy0 hz, sb_cpy0 hz⟩) (fun z hz => ⟨sb_cpy0 hz, sb_cpy0 hz, sb_cpy0 hz, sb_cpy0 hz⟩) (fun _ _ => ⟨rfl, rfl, rfl⟩) (fun _ _ => ⟨rfl, rfl, rfl, rfl, rfl⟩)
  have hI2 : sqI n m G P (q 0) (m_Model_pack65 (q 22 0) (q 5) (q 6) (q 7) (q 8) (q 9) (q 10) (q 11) (q 12) (q 17) 0) (m_Model_copyTo2600 (q 18) (q 13)) (q 22 1) (q 22 2) (m_Model_copyTo8 (q 19) (q 14)) (m_Model_copyTo8 (q 20) (q 15)) (m_Model_copyTo8 (q 21) (q 16)) 1 G P yr (va_cpy jw kjw 0 0 16) (va_cpy br kbr 0 0 16) (va_cpy st kst 0 0 8) (va_cpy ag kag 0 0 8) (va_cpy fm kfm 0 0 8) (va_cpy se kse 0 0 8) ac (va_cpy rows krows 0 0 (ac * 65).toNatClampNeg) sz (va_cpy who kwho 0 0 8) (va_cpy beh kbeh 0 0 8) (va_cpy sjw ksjw 0 0 8) := fun _ => by
    refine ⟨rfl, rfl, hyi, ⟨q 5, q 6, q 7, q 8, q 9, q 10, q 11, q 12, by rw [hy]; exact pk65_of rfl rfl, hA2⟩, hac, sqK_c hK ux_lo_rf (fun j hj => sb_cpy0 (by rw [ha]; omega)) (q_cp26 _ _), sqS_c hS (fun j hj => sb_cpy0 hj) (fun j hj => sb_cpy0 hj) (fun j hj => sb_cpy0 hj) (q_cp8 _ _) (q_cp8 _ _) (q_cp8 _ _)⟩
  simp only [Prod.mk.injEq] at e; obtain ⟨rfl, rfl, rfl, rfl, rfl, rfl, rfl, rfl, rfl, rfl, rfl, rfl, rfl, rfl, rfl, rfl, rfl⟩ := e
  simp only [Prod.mk.injEq] at ex; obtain ⟨ec, -, u3, u4, o17, o18, o19, o20, o21, -⟩ := ex
  unfold GQ; rw [f0, f1, f2, f3, f4, f5, f6, f7, f8, f9, f10, f11, f12, f13, f14, f15, f16, y0, y1, y2, u3, u4, o17, o18, o19, o20, o21]; exact ⟨ec, rfl, ⟨n, m, hA, hy, hyi, hac, hK, hS, hL, hw7, hs7, hR, hI2⟩⟩
theorem z_restore {f_this_now_refused : Nat → Int32} {f_this_kept_refused : Nat → Int32} {G2 : Int32} {P2 : Int32} {yr2 : Int32} {jw2 : Nat → Int32} {br2 : Nat → Int32} {st2 : Nat → Int32} {ag2 : Nat → Int32} {fm2 : Nat → Int32} {se2 : Nat → Int32} {rows2 : Nat → Int32} {ac2 : Int32} {who2 : Nat → Int32} {beh2 : Nat → Int32} {sjw2 : Nat → Int32} {sz2 : Int32} {f_this_now_refused2 : Nat → Int32} (h : GQ q G P yr jw br st ag fm se ac rows sz who beh sjw ob rs ce wl sl rain wit sit ik kG kP kyr kjw kbr kst kag kfm kse kac krows ksz kwho kbeh ksjw) (hik : ik.toInt = oi) (hik2 : iv ik 0 1) (e : (r, G2, P2, yr2, jw2, br2, st2, ag2, fm2, se2, rows2, ac2, who2, beh2, sjw2, sz2, f_this_now_refused2) = m_G_restore ik G P yr jw br st ag fm se ac rows sz who beh sjw f_this_now_refused kG kP kyr kjw kbr kst kag kfm kse kac krows ksz kwho kbeh ksjw f_this_kept_refused) (hx : XM_restore q oi c' r' q') : c' = 0 ∧ r = r' ∧ GQ q' G2 P2 yr2 jw2 br2 st2 ag2 fm2 se2 ac2 rows2 sz2 who2 beh2 sjw2 ob rs ce wl sl rain wit sit ik kG kP kyr kjw kbr kst kag kfm kse kac krows ksz kwho kbeh ksjw := by
  obtain ⟨n, m, hA, hy, hyi, hac, hK, hS, hL, hw7, hs7, hR, hI⟩ := h
  obtain ⟨f_this_status, f_this_statusThen, f_this_status2, x_this_hasImage, hx0, ex, f0, f1, f2, f3, f4, f17, f18, f19, f20, f21, y3, y4⟩ := hx
  have hh : x_this_hasImage = ik := Int32.toInt_inj.mp (hx0.trans hik.symm)
  rw [hh] at ex
  delta m_Model_restore at ex
  dsimp only [uy_L, uy_C1, uy_C2, uy_C3, uy_C4, uy_C5, uy_C6, uy_C7, uy_C8, uy_C9, uy_C10, uy_C11, uy_C12, uy_C13, uy_C14, uy_C15, uy_C16, uy_C17, uy_C18, uy_C19, uy_C20] at ex
  delta m_G_restore m_Memory_copyFrom m_State_copyFrom m_Acts_copyFrom m_Seen_copyFrom at e
  dsimp only [uy_L, uy_C1, uy_C2, uy_C3, uy_C4, uy_C5, uy_C6, uy_C7, uy_C8, uy_C9, uy_C10, uy_C11, uy_C12, uy_C13, uy_C14, uy_C15, uy_C16, uy_C17, uy_C18, uy_C19, uy_C20] at e
  by_cases g : ik = 0
  · rw [if_pos g] at e ex
    simp only [Prod.mk.injEq] at e; obtain ⟨rfl, rfl, rfl, rfl, rfl, rfl, rfl, rfl, rfl, rfl, rfl, rfl, rfl, rfl, rfl, rfl, rfl⟩ := e
    simp only [Prod.mk.injEq] at ex; obtain ⟨er, ec, u1, u2, u0, o5, o6, o7, o8, o9, o10, o11, o12, o13, o14, o15, o16, -⟩ := ex
    unfold GQ; rw [f0, f1, f2, f3, f4, f17, f18, f19, f20, f21, y3, y4, u1, u2, u0, o5, o6, o7, o8, o9, o10, o11, o12, o13, o14, o15, o16]; exact ⟨ec, g.trans er.symm, ⟨n, m, hA, hy, hyi, hac, hK, hS, hL, hw7, hs7, hR, hI⟩⟩
  · rw [if_neg g] at e ex
    obtain ⟨i1, i2, i3, ⟨b1, b2, b3, b4, b5, b6, b7, b8, j1, j2⟩, i4, i5, i6⟩ := hI g
    obtain ⟨a1, a2, a3, a4, a5, a6, a7, a8, t1, t2⟩ := q_up65 (jaw0 := q 5) (brow0 := q 6) (stn0 := q 7) (fc0 := q 8) (fh0 := q 9) (ag0 := q 10) (fm0 := q 11) (se0 := q 12) (f := q 17) (p2 := (0 : Int32)) (b := 0) rfl (by decide)
    rw [t1] at ex; dsimp only at ex
    obtain ⟨l0, l1, l2, l3, l4, l5, l6, l7, l8⟩ := rw_lo j1 t2
    have hk1 := i5.1.1; have hk2 := i5.1.2
    have ha : (kac * 65).toNatClampNeg = 65 * kac.toInt.toNat := by
      show (kac * 65).toInt.toNat = _
      rw [ct_mul (k := kac.toInt.toNat) (c := (65 : Int32)) (n := 65) (by omega) rfl (by omega)]; omega
    have hA2 := sq_A_c (jw2 := va_cpy kjw jw 0 0 16) (br2 := va_cpy kbr br 0 0 16) (st2 := va_cpy kst st 0 0 8) (ag2 := va_cpy kag ag 0 0 8) (fm2 := va_cpy kfm fm 0 0 8) (se2 := va_cpy kse se 0 0 8) j2 (fun z hz => ⟨sb_cpy0 hz, sb_cpy0 hz⟩) (fun z hz => ⟨sb_cpy0 hz, sb_cpy0 hz, sb_cpy0 hz, sb_cpy0 hz⟩) (fun z hz => ⟨l1 z hz, l2 z hz, l3 z hz⟩) (fun z hz => ⟨l4 z hz, l5 z hz, l6 z hz, l7 z hz, l8 z hz⟩)
    have hi1 : ik = 1 := by
      have e1 : (1 : Int32).toInt = 1 := rfl
      have hn : ik.toInt ≠ (0 : Int32).toInt := fun w => g (Int32.toInt_inj.mp w)
      have e0 : (0 : Int32).toInt = 0 := rfl
      have := hik2.1; have := hik2.2
      exact Int32.toInt_inj.mp (by omega)
    · simp only [Prod.mk.injEq] at e; obtain ⟨rfl, rfl, rfl, rfl, rfl, rfl, rfl, rfl, rfl, rfl, rfl, rfl, rfl, rfl, rfl, rfl, rfl⟩ := e
      simp only [Prod.mk.injEq] at ex; obtain ⟨er, ec, u1, u2, u0, o5, o6, o7, o8, o9, o10, o11, o12, o13, o14, o15, o16, -⟩ := ex
      subst i1 i2
      unfold GQ; rw [f0, f1, f2, f3, f4, f17, f18, f19, f20, f21, y3, y4, u1, u2, u0, o5, o6, o7, o8, o9, o10, o11, o12, o13, o14, o15, o16]; exact ⟨ec, hi1.trans er.symm, ⟨n, m, hA2, l0.symm, i3, i4, (sqK_c i5 ux_lo_rf (fun j hj => sb_cpy0 (by rw [ha]; omega)) (q_cp26 _ _)), (sqS_c i6 (fun j hj => sb_cpy0 hj) (fun j hj => sb_cpy0 hj) (fun j hj => sb_cpy0 hj) (q_cp8 _ _) (q_cp8 _ _) (q_cp8 _ _)), hL, hw7, hs7, hR, hI⟩⟩
theorem z_cutX (h : GQ q G P yr jw br st ag fm se ac rows sz who beh sjw ob rs ce wl sl rain wit sit ik kG kP kyr kjw kbr kst kag kfm kse kac krows ksz kwho kbeh ksjw) (hpa : (p1.toInt < 0 ∨ G.toInt ≤ p1.toInt)) (hx : XM_cut q p1 p2 p3 c' r' q') : c' = 1 ∧ GQ q' G P yr jw br st ag fm se ac rows sz who beh sjw ob rs ce wl sl rain wit sit ik kG kP kyr kjw kbr kst kag kfm kse kac krows ksz kwho kbeh ksjw := by
  obtain ⟨n, m, hA, hy, hyi, hac, hK, hS, hL, hw7, hs7, hR, hI⟩ := h
  obtain ⟨f_this_status, f_this_status2, ex, f0, f1, f2, f3, f4, f8, f9, f10, f11, f12, f14, f15, f16, f17, f18, f19, f20, f21, y0, y2, y3, y4⟩ := hx
  obtain ⟨b1, b2, b3, b4⟩ := sq_A_b hA
  have hG0 := hA.1; have hP0 := hA.2.1
  have h10 : ¬ ((1 : Int32) = 0) := by decide
  delta m_Model_cut  m_Model_fail at ex
  dsimp only [uy_L, uy_C1, uy_C2, uy_C3, uy_C4, uy_C5, uy_C6, uy_C7, uy_C8, uy_C9, uy_C10, uy_C11, uy_C12, uy_C13, uy_C14, uy_C15, uy_C16, uy_C17, uy_C18, uy_C19, uy_C20] at ex
  rw [q_isS hG0 b1, if_neg (show ¬ (0 ≤ p1.toInt ∧ p1.toInt < G.toInt) by omega), if_pos rfl] at ex
  simp only [Prod.mk.injEq] at ex; obtain ⟨er, ec, -, o13, u1, o5, o6, o7⟩ := ex
  unfold GQ; rw [f0, f1, f2, f3, f4, f8, f9, f10, f11, f12, f14, f15, f16, f17, f18, f19, f20, f21, y0, y2, y3, y4, o13, u1, o5, o6, o7]; exact ⟨ec, ⟨n, m, hA, hy, hyi, hac, hK, hS, hL, hw7, hs7, hR, hI⟩⟩
theorem z_callX (h : GQ q G P yr jw br st ag fm se ac rows sz who beh sjw ob rs ce wl sl rain wit sit ik kG kP kyr kjw kbr kst kag kfm kse kac krows ksz kwho kbeh ksjw) (hpa : (p1.toInt < 0 ∨ P.toInt ≤ p1.toInt)) (hx : XM_call q p1 c' r' q') : c' = 1 ∧ GQ q' G P yr jw br st ag fm se ac rows sz who beh sjw ob rs ce wl sl rain wit sit ik kG kP kyr kjw kbr kst kag kfm kse kac krows ksz kwho kbeh ksjw := by
  obtain ⟨n, m, hA, hy, hyi, hac, hK, hS, hL, hw7, hs7, hR, hI⟩ := h
  obtain ⟨f_this_status, f_this_status2, ex, f0, f1, f2, f3, f4, f5, f6, f7, f8, f9, f10, f11, f14, f15, f16, f17, f18, f19, f20, f21, y0, y2, y3, y4⟩ := hx
  obtain ⟨b1, b2, b3, b4⟩ := sq_A_b hA
  have hG0 := hA.1; have hP0 := hA.2.1
  have h10 : ¬ ((1 : Int32) = 0) := by decide
  delta m_Model_call  m_Model_fail at ex
  dsimp only [uy_L, uy_C1, uy_C2, uy_C3, uy_C4, uy_C5, uy_C6, uy_C7, uy_C8, uy_C9, uy_C10, uy_C11, uy_C12, uy_C13, uy_C14, uy_C15, uy_C16, uy_C17, uy_C18, uy_C19, uy_C20] at ex
  rw [q_isP hP0 b3, if_neg (show ¬ (0 ≤ p1.toInt ∧ p1.toInt < P.toInt) by omega), if_pos rfl] at ex
  simp only [Prod.mk.injEq] at ex; obtain ⟨er, ec, -, o13, u1, o12⟩ := ex
  unfold GQ; rw [f0, f1, f2, f3, f4, f5, f6, f7, f8, f9, f10, f11, f14, f15, f16, f17, f18, f19, f20, f21, y0, y2, y3, y4, o13, u1, o12]; exact ⟨ec, ⟨n, m, hA, hy, hyi, hac, hK, hS, hL, hw7, hs7, hR, hI⟩⟩
theorem z_liftX (h : GQ q G P yr jw br st ag fm se ac rows sz who beh sjw ob rs ce wl sl rain wit sit ik kG kP kyr kjw kbr kst kag kfm kse kac krows ksz kwho kbeh ksjw) (hpa : (p1.toInt < 0 ∨ P.toInt ≤ p1.toInt) ∨ (p2.toInt < 0 ∨ G.toInt ≤ p2.toInt)) (hx : XM_lift q p1 p2 c' r' q') : c' = 1 ∧ GQ q' G P yr jw br st ag fm se ac rows sz who beh sjw ob rs ce wl sl rain wit sit ik kG kP kyr kjw kbr kst kag kfm kse kac krows ksz kwho kbeh ksjw := by
  obtain ⟨n, m, hA, hy, hyi, hac, hK, hS, hL, hw7, hs7, hR, hI⟩ := h
  obtain ⟨f_this_status, f_this_status2, ex, f0, f1, f2, f3, f4, f5, f6, f7, f8, f9, f10, f11, f14, f15, f16, f17, f18, f19, f20, f21, y0, y2, y3, y4⟩ := hx
  obtain ⟨b1, b2, b3, b4⟩ := sq_A_b hA
  have hG0 := hA.1; have hP0 := hA.2.1
  have h10 : ¬ ((1 : Int32) = 0) := by decide
  delta m_Model_lift m_Model_lift_k21 m_Model_fail m_Model_failing at ex
  dsimp only [uy_L, uy_C1, uy_C2, uy_C3, uy_C4, uy_C5, uy_C6, uy_C7, uy_C8, uy_C9, uy_C10, uy_C11, uy_C12, uy_C13, uy_C14, uy_C15, uy_C16, uy_C17, uy_C18, uy_C19, uy_C20] at ex
  rw [q_isP hP0 b3] at ex
  by_cases g : 0 ≤ p1.toInt ∧ p1.toInt < P.toInt
  · rw [if_pos g, if_neg h10, q_isS hG0 b1, if_neg (show ¬ (0 ≤ p2.toInt ∧ p2.toInt < G.toInt) by omega), if_pos rfl] at ex
    simp only [Prod.mk.injEq] at ex; obtain ⟨er, ec, -, o13, u1, o12⟩ := ex
    unfold GQ; rw [f0, f1, f2, f3, f4, f5, f6, f7, f8, f9, f10, f11, f14, f15, f16, f17, f18, f19, f20, f21, y0, y2, y3, y4, o13, u1, o12]; exact ⟨ec, ⟨n, m, hA, hy, hyi, hac, hK, hS, hL, hw7, hs7, hR, hI⟩⟩
  · rw [if_neg g, if_pos rfl] at ex
    simp only [Prod.mk.injEq] at ex; obtain ⟨er, ec, -, o13, u1, o12⟩ := ex
    unfold GQ; rw [f0, f1, f2, f3, f4, f5, f6, f7, f8, f9, f10, f11, f14, f15, f16, f17, f18, f19, f20, f21, y0, y2, y3, y4, o13, u1, o12]; exact ⟨ec, ⟨n, m, hA, hy, hyi, hac, hK, hS, hL, hw7, hs7, hR, hI⟩⟩
theorem z_leaveX (h : GQ q G P yr jw br st ag fm se ac rows sz who beh sjw ob rs ce wl sl rain wit sit ik kG kP kyr kjw kbr kst kag kfm kse kac krows ksz kwho kbeh ksjw) (hpa : (p1.toInt < 0 ∨ P.toInt ≤ p1.toInt) ∨ (p2.toInt < -1 ∨ G.toInt ≤ p2.toInt)) (hx : XM_leave q p1 p2 c' r' q') : c' = 1 ∧ GQ q' G P yr jw br st ag fm se ac rows sz who beh sjw ob rs ce wl sl rain wit sit ik kG kP kyr kjw kbr kst kag kfm kse kac krows ksz kwho kbeh ksjw := by
  obtain ⟨n, m, hA, hy, hyi, hac, hK, hS, hL, hw7, hs7, hR, hI⟩ := h
  obtain ⟨f_this_status, f_this_status2, ex, f0, f1, f2, f3, f4, f5, f6, f7, f8, f9, f10, f12, f14, f15, f16, f17, f18, f19, f20, f21, y0, y2, y3, y4⟩ := hx
  obtain ⟨b1, b2, b3, b4⟩ := sq_A_b hA
  have hG0 := hA.1; have hP0 := hA.2.1
  have h10 : ¬ ((1 : Int32) = 0) := by decide
  delta m_Model_leave m_Model_leave_k33 m_Model_fail at ex
  dsimp only [uy_L, uy_C1, uy_C2, uy_C3, uy_C4, uy_C5, uy_C6, uy_C7, uy_C8, uy_C9, uy_C10, uy_C11, uy_C12, uy_C13, uy_C14, uy_C15, uy_C16, uy_C17, uy_C18, uy_C19, uy_C20] at ex
  rw [q_isP hP0 b3] at ex
  by_cases g : 0 ≤ p1.toInt ∧ p1.toInt < P.toInt
  · have lm : (-1 : Int64).toInt = -1 := by decide
    have eg : (q 0 0 - 1).toInt = G.toInt - 1 := by
      have e1 : (1 : Int32).toInt = 1 := rfl
      have hr := iv_rng G
      rw [hG0, iv_tsub (by omega) (by omega), e1]
    have z0 : (0 : Int32).toNatClampNeg = 0 := rfl
    have hii : uy_ii p2.toInt64 (-1 : Int64) (q 0 0 - 1).toInt64 = 0 := ii_0 lm ((Int32.toInt_toInt64 _).trans eg) (by omega)
    rw [if_pos g, if_neg h10] at ex
    try rw [z0] at ex
    rw [hii, if_pos rfl] at ex
    simp only [Prod.mk.injEq] at ex; obtain ⟨er, ec, -, o13, u1, o11⟩ := ex
    unfold GQ; rw [f0, f1, f2, f3, f4, f5, f6, f7, f8, f9, f10, f12, f14, f15, f16, f17, f18, f19, f20, f21, y0, y2, y3, y4, o13, u1, o11]; exact ⟨ec, ⟨n, m, hA, hy, hyi, hac, hK, hS, hL, hw7, hs7, hR, hI⟩⟩
  · rw [if_neg g, if_pos rfl] at ex
    simp only [Prod.mk.injEq] at ex; obtain ⟨er, ec, -, o13, u1, o11⟩ := ex
    unfold GQ; rw [f0, f1, f2, f3, f4, f5, f6, f7, f8, f9, f10, f12, f14, f15, f16, f17, f18, f19, f20, f21, y0, y2, y3, y4, o13, u1, o11]; exact ⟨ec, ⟨n, m, hA, hy, hyi, hac, hK, hS, hL, hw7, hs7, hR, hI⟩⟩
theorem z_seeX (h : GQ q G P yr jw br st ag fm se ac rows sz who beh sjw ob rs ce wl sl rain wit sit ik kG kP kyr kjw kbr kst kag kfm kse kac krows ksz kwho kbeh ksjw) (hpa : (p1.toInt < 0 ∨ P.toInt ≤ p1.toInt)) (hx : XM_see q p1 p2 p3 c' r' q') : c' = 1 ∧ GQ q' G P yr jw br st ag fm se ac rows sz who beh sjw ob rs ce wl sl rain wit sit ik kG kP kyr kjw kbr kst kag kfm kse kac krows ksz kwho kbeh ksjw := by
  obtain ⟨n, m, hA, hy, hyi, hac, hK, hS, hL, hw7, hs7, hR, hI⟩ := h
  obtain ⟨f_this_status, f_this_status2, ex, f0, f1, f2, f3, f4, f5, f6, f7, f8, f9, f10, f11, f12, f13, f17, f18, f19, f20, f21, y0, y1, y3, y4⟩ := hx
  obtain ⟨b1, b2, b3, b4⟩ := sq_A_b hA
  have hG0 := hA.1; have hP0 := hA.2.1
  have h10 : ¬ ((1 : Int32) = 0) := by decide
  delta m_Model_see  m_Model_fail at ex
  dsimp only [uy_L, uy_C1, uy_C2, uy_C3, uy_C4, uy_C5, uy_C6, uy_C7, uy_C8, uy_C9, uy_C10, uy_C11, uy_C12, uy_C13, uy_C14, uy_C15, uy_C16, uy_C17, uy_C18, uy_C19, uy_C20] at ex
  rw [q_isP hP0 b3, if_neg (show ¬ (0 ≤ p1.toInt ∧ p1.toInt < P.toInt) by omega), if_pos rfl] at ex
  simp only [Prod.mk.injEq] at ex; obtain ⟨er, ec, -, o14, o15, o16, u2⟩ := ex
  unfold GQ; rw [f0, f1, f2, f3, f4, f5, f6, f7, f8, f9, f10, f11, f12, f13, f17, f18, f19, f20, f21, y0, y1, y3, y4, o14, o15, o16, u2]; exact ⟨ec, ⟨n, m, hA, hy, hyi, hac, hK, hS, hL, hw7, hs7, hR, hI⟩⟩
end UXZ
