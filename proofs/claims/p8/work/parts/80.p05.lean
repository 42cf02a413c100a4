/-! a year: one stone -/
section UXY5
variable {G P i t rn yr wl : Int32} {jw br st tl jaw brow stn se' wit sg V W A S jw0 br0 st0 se0 V0 W0 : Nat → Int32} {k n : Nat}
/-- stones' faces and stones between their bounds -/
def wg (n : Nat) (jaw brow stn : Nat → Int32) : Prop := ∀ z : Nat, z < n → iv (jaw z) 0 9 ∧ iv (brow z) 0 9 ∧ iv (stn z) 0 99
theorem mx99 {a b : Int32} (ha : iv a 0 99) (hb : iv b 0 20) : iv (if (0 : Int32) < a - b then a - b else 0) 0 99 := by
  have e0 : (0 : Int32).toInt = 0 := rfl
  have h1 := ha.1; have h2 := ha.2; have h3 := hb.1; have h4 := hb.2
  have hs : (a - b).toInt = a.toInt - b.toInt := iv_tsub (by omega) (by omega)
  obtain ⟨s, es⟩ : ∃ s : Int32, s = a - b := ⟨_, rfl⟩
  rw [← es] at hs ⊢
  by_cases h : (0 : Int32) < s
  · rw [if_pos h]; have := lt_i h; exact ⟨by omega, by omega⟩
  · rw [if_neg h]; exact ⟨by omega, by omega⟩
theorem le0 {x : Int32} {b : Int} (h : iv x 0 b) : x ≤ 0 ↔ x = 0 := by
  have e0 : (0 : Int32).toInt = 0 := rfl
  have := h.1
  exact ⟨fun w => Int32.toInt_inj.mp (by have := le_i w; omega), fun w => by rw [w]; decide⟩
theorem uy_c3e {α0 α1 α2 β : Type} (a : α0 × α1 × α2) (T : α0 → α1 → α2 → β) : uy_C3 a T = T a.1 a.2.1 a.2.2 := rfl
theorem we_E1 (h1 : ¬ G ≤ i) : m_Walk_wearAll_b10 G P jw0 br0 st0 se0 wl wit V0 W0 rn t i jw br st V W = (if st i.toNatClampNeg ≤ 0 then .inl (t, i + 1, jw, br, st, V, W) else if (t >>> (i &&& 31)) &&& 1 = 0 then (if wl = 0 then m_Walk_wearAll_k67 G P jw0 br0 st0 se0 wl wit V0 W0 rn t i (st i.toNatClampNeg) rn jw br st V W else uy_C3 (m_Walk_wearOf G st wl wit V W i) (fun r26 f28 f29 => m_Walk_wearAll_k67 G P jw0 br0 st0 se0 wl wit V0 W0 rn t i (st i.toNatClampNeg) r26 jw br st f28 f29)) else .inl (t, i + 1, jw, br, st, V, W)) := if_neg h1
theorem we_E2 : m_Model_wear yr tl sg jaw brow stn se' A S i rn = (if stn i.toNatClampNeg = 0 then (A, S, stn, jaw, brow) else if m_Model_sitterOf tl se' i = -1 then (uy_C3 (m_Model_wearsOf yr tl sg stn A S i rn) (fun r10 f12 f13 => if upd stn i.toNatClampNeg (if (0 : Int32) < stn i.toNatClampNeg - r10 then stn i.toNatClampNeg - r10 else 0) i.toNatClampNeg ≤ 0 then (f12, f13, upd stn i.toNatClampNeg (if (0 : Int32) < stn i.toNatClampNeg - r10 then stn i.toNatClampNeg - r10 else 0), upd jaw i.toNatClampNeg 0, upd brow i.toNatClampNeg 0) else (f12, f13, upd stn i.toNatClampNeg (if (0 : Int32) < stn i.toNatClampNeg - r10 then stn i.toNatClampNeg - r10 else 0), jaw, brow))) else (A, S, stn, jaw, brow)) := rfl
theorem we_a1 {x wv : Int32} {V' W' : Nat → Int32} : m_Walk_wearAll_k67 G P jw0 br0 st0 se0 wl wit V0 W0 rn t i x wv jw br st V' W' = uy_C3 (m_State_setStone jw br st i (x - (if (0 : Int32) < (if (20 : Int32) < wv then (20 : Int32) else wv) then (if (20 : Int32) < wv then (20 : Int32) else wv) else 0))) (fun f7 f8 f9 => .inl (t, i + 1, f7, f8, f9, V', W')) := rfl
theorem we_a2 {x : Int32} : m_State_setStone jw br st i x = (if upd st i.toNatClampNeg (if (0 : Int32) < x then x else 0) i.toNatClampNeg = 0 then (upd jw i.toNatClampNeg 0, upd br i.toNatClampNeg 0, upd st i.toNatClampNeg (if (0 : Int32) < x then x else 0)) else (jw, br, upd st i.toNatClampNeg (if (0 : Int32) < x then x else 0))) := rfl
theorem we_k {v : Int32} : (if (0 : Int32) < (if v < 20 then v else 20) then (if v < 20 then v else 20) else 0) = k20 v := rfl
theorem q_we1 (hG : tl 0 = G) (hP : tl 1 = P) (h4 : tl 4 = wl) (hn : G.toInt = (n : Int)) (hn8 : n ≤ 8) (hP0 : 0 ≤ P.toInt) (hi : i.toInt = (k : Int)) (hk : k < n) (hb : bs t (tkn se' P.toInt.toNat)) (hs : sq_G G jw br st jaw brow stn) (hw : wg n jaw brow stn)
    (hw0 : 0 ≤ wl.toInt) (hC : ∀ k : Nat, (k : Int) < wl.toInt → cen 4 id (wit k) (sg k)) (hW : wf sg wl) (hd : wl ≠ 0 → dep sg wl.toInt.toNat = 1) (v3 : V 3 = yr) (v0 : V 0 = rn) :
    ∃ jw' br' st' V' W' A' S' stn' jaw' brow' : Nat → Int32, m_Walk_wearAll_b10 G P jw0 br0 st0 se0 wl wit V0 W0 rn t i jw br st V W = .inl (t, i + 1, jw', br', st', V', W') ∧ m_Model_wear yr tl sg jaw brow stn se' A S i rn = (A', S', stn', jaw', brow') ∧ sq_G G jw' br' st' jaw' brow' stn' ∧ (∀ z : Nat, 8 ≤ z → jw' z = jw z ∧ br' z = br z) ∧ V' 3 = yr ∧ V' 0 = rn ∧ wg n jaw' brow' stn' := by
  have e0 : (0 : Int32).toInt = 0 := rfl
  have e99 : (99 : Int32).toInt = 99 := rfl
  have ci := ct_n hi
  have h1 : ¬ G ≤ i := fun w => by have := le_i w; omega
  obtain ⟨q1, q2, q3⟩ := hs k (by omega)
  obtain ⟨b1, b2, b3⟩ := hw k hk
  have E1 := we_E1 (jw0 := jw0) (br0 := br0) (st0 := st0) (se0 := se0) (wl := wl) (wit := wit) (V0 := V0) (W0 := W0) (rn := rn) (t := t) (jw := jw) (br := br) (st := st) (V := V) (W := W) (P := P) h1
  rw [ci, q3] at E1
  have E2 := we_E2 (yr := yr) (tl := tl) (sg := sg) (jaw := jaw) (brow := brow) (stn := stn) (se' := se') (A := A) (S := S) (i := i) (rn := rn)
  rw [ci] at E2
  by_cases z : stn k = 0
  · exact ⟨jw, br, st, V, W, A, S, stn, jaw, brow, E1.trans (if_pos ((le0 b3).mpr z)), E2.trans (if_pos z), hs, fun _ _ => ⟨rfl, rfl⟩, v3, v0, hw⟩
  · have z' : ¬ stn k ≤ 0 := fun w => z ((le0 b3).mp w)
    by_cases hf : tkn se' P.toInt.toNat k
    · have f1 : ¬ (t >>> (i &&& 31)) &&& 1 = 0 := fun w => (bs_is hb (by omega) hi).2.mp w hf
      have f2 : ¬ m_Model_sitterOf tl se' i = -1 := fun w => (q_sitN (se := se') hP hP0 hi).mp w hf
      exact ⟨jw, br, st, V, W, A, S, stn, jaw, brow, E1.trans ((if_neg z').trans (if_neg f1)), E2.trans ((if_neg z).trans (if_neg f2)), hs, fun _ _ => ⟨rfl, rfl⟩, v3, v0, hw⟩
    · have f1 := (bs_is hb (by omega) hi).2.mpr hf
      have f2 := (q_sitN (se := se') hP hP0 hi).mpr hf
      have X := q_wr (g := i) (i := k) (w0 := W) (A := A) (st0 := S) hG h4 hn hn8 hi hk (fun z hz => (hs z hz).2.2) hw0 hC hW hd v3 v0
      have E1' := E1.trans ((if_neg z').trans (if_pos f1))
      have E2' := E2.trans ((if_neg z).trans (if_pos f2))
      obtain ⟨wv, ewv⟩ : ∃ v : Int32, v = (if wl = 0 then rn else (m_Walk_wearOf G st wl wit V W i).1) := ⟨_, rfl⟩
      obtain ⟨V', eV⟩ : ∃ v : Nat → Int32, v = (if wl = 0 then V else (m_Walk_wearOf G st wl wit V W i).2.1) := ⟨_, rfl⟩
      obtain ⟨W', eW⟩ : ∃ v : Nat → Int32, v = (if wl = 0 then W else (m_Walk_wearOf G st wl wit V W i).2.2) := ⟨_, rfl⟩
      have hV : V' 3 = yr ∧ V' 0 = rn := by
        rw [eV]
        by_cases hl : wl = 0
        · rw [if_pos hl]; exact ⟨v3, v0⟩
        · rw [if_neg hl, q_weo hn hn8 hi hk]; exact ⟨v3, v0⟩
      have E1'' : m_Walk_wearAll_b10 G P jw0 br0 st0 se0 wl wit V0 W0 rn t i jw br st V W = m_Walk_wearAll_k67 G P jw0 br0 st0 se0 wl wit V0 W0 rn t i (stn k) wv jw br st V' W' := by
        rw [E1', ewv, eV, eW]
        by_cases hl : wl = 0
        · rw [if_pos hl, if_pos hl, if_pos hl, if_pos hl]
        · rw [if_neg hl, if_neg hl, if_neg hl, if_neg hl]; exact uy_c3e _ _
      rw [← ewv] at X
      obtain ⟨nx, enx⟩ : ∃ v : Int32, v = (if (0 : Int32) < stn k - k20 wv then stn k - k20 wv else 0) := ⟨_, rfl⟩
      have hnx : iv nx 0 99 := by rw [enx]; exact mx99 b3 (k20_iv wv)
      have E3 : m_Walk_wearAll_k67 G P jw0 br0 st0 se0 wl wit V0 W0 rn t i (stn k) wv jw br st V' W' = (if nx = 0 then .inl (t, i + 1, upd jw k 0, upd br k 0, upd st k nx, V', W') else .inl (t, i + 1, jw, br, upd st k nx, V', W')) := by
        rw [we_a1, mn20, we_k, we_a2, ← enx, ci, pk_us]
        by_cases hz : nx = 0
        · rw [if_pos hz, if_pos hz]; rfl
        · rw [if_neg hz, if_neg hz]; rfl
      have E4 : m_Model_wear yr tl sg jaw brow stn se' A S i rn = (if nx = 0 then ((m_Model_wearsOf yr tl sg stn A S i rn).2.1, (m_Model_wearsOf yr tl sg stn A S i rn).2.2, upd stn k nx, upd jaw k 0, upd brow k 0) else ((m_Model_wearsOf yr tl sg stn A S i rn).2.1, (m_Model_wearsOf yr tl sg stn A S i rn).2.2, upd stn k nx, jaw, brow)) := by
        rw [E2']
        show (if upd stn k (if (0 : Int32) < stn k - (m_Model_wearsOf yr tl sg stn A S i rn).1 then stn k - (m_Model_wearsOf yr tl sg stn A S i rn).1 else 0) k ≤ 0 then _ else _) = _
        rw [← X, ← enx, pk_us]
        by_cases hz : nx = 0
        · rw [if_pos ((le0 hnx).mpr hz), if_pos hz]
        · rw [if_neg (fun w => hz ((le0 hnx).mp w)), if_neg hz]
      by_cases hz : nx = 0
      · refine ⟨_, _, _, _, _, _, _, _, _, _, (E1''.trans E3).trans (if_pos hz), E4.trans (if_pos hz), ?_, ?_, hV.1, hV.2, ?_⟩
        · intro y hy
          by_cases ey : y = k
          · rw [ey, pk_us, pk_us, pk_us, pk_us, pk_us, pk_us]; exact ⟨rfl, rfl, rfl⟩
          · rw [pk_un ey, pk_un ey, pk_un ey, pk_un ey, pk_un ey, pk_un ey]; exact hs y hy
        · intro y hy
          rw [pk_un (by omega), pk_un (by omega)]; exact ⟨rfl, rfl⟩
        · intro y hy
          by_cases ey : y = k
          · rw [ey, pk_us, pk_us, pk_us]; exact ⟨⟨by omega, by omega⟩, ⟨by omega, by omega⟩, hnx⟩
          · rw [pk_un ey, pk_un ey, pk_un ey]; exact hw y hy
      · refine ⟨_, _, _, _, _, _, _, _, _, _, (E1''.trans E3).trans (if_neg hz), E4.trans (if_neg hz), ?_, fun _ _ => ⟨rfl, rfl⟩, hV.1, hV.2, ?_⟩
        · intro y hy
          by_cases ey : y = k
          · rw [ey, pk_us, pk_us]; exact ⟨q1, q2, rfl⟩
          · rw [pk_un ey, pk_un ey]; exact hs y hy
        · intro y hy
          by_cases ey : y = k
          · rw [ey, pk_us]; exact ⟨b1, b2, hnx⟩
          · rw [pk_un ey]; exact hw y hy
end UXY5
