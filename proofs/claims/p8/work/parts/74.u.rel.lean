/-! what the class has told so far, held against the text's values -/
def ux_rg (V : Nat → Nat → Int32) (jw br st : Nat → Int32) (G : Int32) : Prop := ∀ k : Nat, (k : Int) < G.toInt → iv (V 0 k) 0 9 ∧ iv (V 1 k) 0 9 ∧ iv (V 2 k) 0 99 ∧ st k = V 2 k ∧ jw k = (if V 2 k = 0 then 0 else V 0 k) ∧ br k = (if V 2 k = 0 then 0 else V 1 k)
def ux_rq (V : Nat → Nat → Int32) (jw br ag fm se : Nat → Int32) (G P : Int32) : Prop := ∀ k : Nat, (k : Int) < P.toInt → iv (V 4 k) 0 9 ∧ iv (V 5 k) 0 9 ∧ iv (V 6 k) 0 99 ∧ iv (V 7 k) (-1) (G.toInt - 1) ∧ (V 3 k = 0 ∨ V 3 k = 1) ∧ jw (8 + k) = V 4 k ∧ br (8 + k) = V 5 k ∧ ag k = V 6 k ∧ fm k = V 7 k ∧ se k = -1
/-- the start: gargoyles, people -/
def ux_rs (V : Nat → Nat → Int32) (jw br st ag fm se : Nat → Int32) (ob G P : Int32) : Prop := 0 ≤ G.toInt ∧ G.toInt ≤ 8 ∧ 0 ≤ P.toInt ∧ P.toInt ≤ 8 ∧ ux_rg V jw br st G ∧ ux_rq V jw br ag fm se G P ∧ bs ob (fun z => (z : Int) < P.toInt ∧ V 3 z = 1)
/-- three numbers side by side, from q on -/
def ux_t3 (B : Nat → Nat) (q : Nat) (x y z : Int32) : Prop := x = ux_nN B q ∧ iv x 0 9 ∧ y = ux_nN B (ux_te B q) ∧ iv y 0 9 ∧ z = ux_nN B (ux_te B (ux_te B q)) ∧ iv z 0 99
section UXRL
variable {B : Nat → Nat} {V : Nat → Nat → Int32} {jw br st ag fm se jw1 br1 jw2 br2 st2 ag1 fm1 se1 rain rain1 : Nat → Int32} {ob ob' G G' P P' F x y z w f1 f2 f3 m n n' : Int32} {r : Nat × Nat} {p q k j : Nat}
theorem ux_nx1 (h : ux_nx B f1 x m r) (hf : f1.toInt = 0) (hm : 0 ≤ m.toInt) : x = ux_nN B r.2 ∧ iv x 0 m.toInt ∧ (ux_bn r (ux_nm B m.toInt.toNat)).2 = ux_te B r.2 := by
  obtain ⟨h1, h2⟩ := h hf
  obtain ⟨-, -, h3, h4⟩ := ux_nm_e h2
  exact ⟨ux_nN_of h1, ⟨by omega, by omega⟩, h4⟩
theorem ux_n3 (n1 : ux_nx B f1 x (9 : Int32) r) (n2 : ux_nx B f2 y (9 : Int32) (ux_bn r (ux_nm B (9 : Int32).toInt.toNat))) (n3 : ux_nx B f3 z (99 : Int32) (ux_bn (ux_bn r (ux_nm B (9 : Int32).toInt.toNat)) (ux_nm B (9 : Int32).toInt.toNat))) (h1 : f1.toInt = 0) (h2 : f2.toInt = 0) (h3 : f3.toInt = 0) :
    ux_t3 B r.2 x y z ∧ (ux_bn (ux_bn (ux_bn r (ux_nm B (9 : Int32).toInt.toNat)) (ux_nm B (9 : Int32).toInt.toNat)) (ux_nm B (99 : Int32).toInt.toNat)).2 = ux_te B (ux_te B (ux_te B r.2)) := by
  obtain ⟨a1, a2, a3⟩ := ux_nx1 n1 h1 (by decide)
  obtain ⟨b1, b2, b3⟩ := ux_nx1 n2 h2 (by decide)
  obtain ⟨c1, c2, c3⟩ := ux_nx1 n3 h3 (by decide)
  rw [a3] at b1 b3
  rw [b3] at c1 c3
  exact ⟨⟨a1, a2, b1, b2, c1, c2⟩, c3⟩
theorem ux_vG_i {i : Nat} {g : Nat} (h0 : i ≠ 0) (h1 : i ≠ 1) (h2 : i ≠ 2) : ux_vG B g p V i k = V i k := (ux_u2i h2).trans ((ux_u2i h1).trans (ux_u2i h0))
theorem ux_vG_k {i : Nat} {g : Nat} (h : k ≠ g) : ux_vG B g p V i k = V i k := (ux_u2k h).trans ((ux_u2k h).trans (ux_u2k h))
theorem ux_vG_0 {g : Nat} : ux_vG B g p V 0 g = ux_nN B (ux_te B p) := (ux_u2i (by decide)).trans ((ux_u2i (by decide)).trans ux_u2s)
theorem ux_vG_1 {g : Nat} : ux_vG B g p V 1 g = ux_nN B (ux_te B (ux_te B p)) := (ux_u2i (by decide)).trans ux_u2s
theorem ux_vG_2 {g : Nat} : ux_vG B g p V 2 g = ux_nN B (ux_te B (ux_te B (ux_te B p))) := ux_u2s
theorem ux_vP_i {i : Nat} {g : Nat} (h : i < 3 ∨ 7 < i) : ux_vP B g p V i k = V i k := (ux_u2i (by omega)).trans ((ux_u2i (by omega)).trans ((ux_u2i (by omega)).trans ((ux_u2i (by omega)).trans (ux_u2i (by omega)))))
theorem ux_vP_k {i : Nat} {g : Nat} (h : k ≠ g) : ux_vP B g p V i k = V i k := (ux_u2k h).trans ((ux_u2k h).trans ((ux_u2k h).trans ((ux_u2k h).trans (ux_u2k h))))
theorem ux_vP_3 {g : Nat} : ux_vP B g p V 3 g = ux_if (ux_mw B p 2) 1 0 := (ux_u2i (by decide)).trans ((ux_u2i (by decide)).trans ((ux_u2i (by decide)).trans ((ux_u2i (by decide)).trans ux_u2s)))
theorem ux_vP_4 {g : Nat} : ux_vP B g p V 4 g = ux_nN B (ux_te B p) := (ux_u2i (by decide)).trans ((ux_u2i (by decide)).trans ((ux_u2i (by decide)).trans ux_u2s))
theorem ux_vP_5 {g : Nat} : ux_vP B g p V 5 g = ux_nN B (ux_te B (ux_te B p)) := (ux_u2i (by decide)).trans ((ux_u2i (by decide)).trans ux_u2s)
theorem ux_vP_6 {g : Nat} : ux_vP B g p V 6 g = ux_nN B (ux_te B (ux_te B (ux_te B p))) := (ux_u2i (by decide)).trans ux_u2s
theorem ux_vP_7 {g : Nat} : ux_vP B g p V 7 g = ux_vF B (ux_te B (ux_te B (ux_te B (ux_te B p)))) := ux_u2s
/-- a gargoyle's line -/
theorem ux_rs_G (h : ux_rs V jw br st ag fm se ob G P) (hF : (jw1, br1) = m_State_setFace jw br G x y) (hS : (jw2, br2, st2) = m_State_setStone jw1 br1 st G z) (hg : G.toInt < 8) (hG : G'.toInt = G.toInt + 1) (t : ux_t3 B (ux_te B p) x y z) : ux_rs (ux_vG B G.toInt.toNat p V) jw2 br2 st2 ag fm se ob G' P := by
  obtain ⟨g0, g8, p0, p8, hg', hq, hb⟩ := h
  obtain ⟨t1, t2, t3, t4, t5, t6⟩ := t
  have eF : m_State_setFace jw br G x y = (upd jw G.toNatClampNeg x, upd br G.toNatClampNeg y) := rfl
  have hF := hF.trans eF
  have ej : jw1 = upd jw G.toNatClampNeg x := congrArg Prod.fst hF
  have eb : br1 = upd br G.toNatClampNeg y := congrArg Prod.snd hF
  obtain ⟨g, eg⟩ : ∃ g : Nat, g = G.toInt.toNat := ⟨_, rfl⟩
  have ec : G.toNatClampNeg = g := by rw [eg]; rfl
  rw [ec] at ej eb
  have e1 : (if (0 : Int32) < z then z else (0 : Int32)) = z := by
    by_cases q : (0 : Int32) < z
    · rw [if_pos q]
    · rw [if_neg q]
      have q1 := le_i (iv_nlt q)
      have e0 : (0 : Int32).toInt = 0 := rfl
      exact Int32.toInt_inj.mp (by have := t6.1; omega)
  have eS : m_State_setStone jw1 br1 st G z = (if (upd st g z) g = (0 : Int32) then (upd jw1 g 0, upd br1 g 0, upd st g z) else (jw1, br1, upd st g z)) := by
    have : m_State_setStone jw1 br1 st G z = (if (upd st G.toNatClampNeg (if (0 : Int32) < z then z else (0 : Int32))) G.toNatClampNeg = (0 : Int32) then (upd jw1 G.toNatClampNeg 0, upd br1 G.toNatClampNeg 0, upd st G.toNatClampNeg (if (0 : Int32) < z then z else (0 : Int32))) else (jw1, br1, upd st G.toNatClampNeg (if (0 : Int32) < z then z else (0 : Int32)))) := rfl
    rw [this, e1, ec]
  rw [pk_us] at eS
  have hS := hS.trans eS
  have es : st2 = upd st g z := by
    by_cases q : z = 0
    · rw [if_pos q] at hS; exact congrArg (fun v => v.2.2) hS
    · rw [if_neg q] at hS; exact congrArg (fun v => v.2.2) hS
  have ej2 : jw2 g = (if z = 0 then 0 else x) ∧ br2 g = (if z = 0 then 0 else y) := by
    by_cases q : z = 0
    · rw [if_pos q] at hS
      rw [if_pos q, if_pos q]
      have a : jw2 = upd jw1 g 0 := congrArg (fun v => v.1) hS
      have b : br2 = upd br1 g 0 := congrArg (fun v => v.2.1) hS
      rw [a, b]; exact ⟨pk_us, pk_us⟩
    · rw [if_neg q] at hS
      rw [if_neg q, if_neg q]
      have a : jw2 = jw1 := congrArg (fun v => v.1) hS
      have b : br2 = br1 := congrArg (fun v => v.2.1) hS
      rw [a, b, ej, eb]; exact ⟨pk_us, pk_us⟩
  have eo : ∀ k : Nat, k ≠ g → jw2 k = jw k ∧ br2 k = br k ∧ st2 k = st k := by
    intro k hk
    refine ⟨?_, ?_, by rw [es]; exact pk_un hk⟩
    · by_cases q : z = 0
      · rw [if_pos q] at hS
        have a : jw2 = upd jw1 g 0 := congrArg (fun v => v.1) hS
        rw [a, pk_un hk, ej, pk_un hk]
      · rw [if_neg q] at hS
        have a : jw2 = jw1 := congrArg (fun v => v.1) hS
        rw [a, ej, pk_un hk]
    · by_cases q : z = 0
      · rw [if_pos q] at hS
        have a : br2 = upd br1 g 0 := congrArg (fun v => v.2.1) hS
        rw [a, pk_un hk, eb, pk_un hk]
      · rw [if_neg q] at hS
        have a : br2 = br1 := congrArg (fun v => v.2.1) hS
        rw [a, eb, pk_un hk]
  rw [← eg]
  refine ⟨by omega, by omega, p0, p8, fun k hk => ?_, fun k hk => ?_, ?_⟩
  · by_cases q : k = g
    · rw [q, ux_vG_0, ux_vG_1, ux_vG_2, ← t1, ← t3, ← t5]
      exact ⟨t2, t4, t6, by rw [es]; exact pk_us, ej2.1, ej2.2⟩
    · rw [ux_vG_k q, ux_vG_k q, ux_vG_k q, (eo k q).1, (eo k q).2.1, (eo k q).2.2]
      exact hg' k (by omega)
  · obtain ⟨a1, a2, a3, a4, a5, a6, a7, a8, a9, a10⟩ := hq k hk
    have q : 8 + k ≠ g := by omega
    rw [ux_vG_i (by decide) (by decide) (by decide), ux_vG_i (by decide) (by decide) (by decide), ux_vG_i (by decide) (by decide) (by decide), ux_vG_i (by decide) (by decide) (by decide), ux_vG_i (by decide) (by decide) (by decide), (eo _ q).1, (eo _ q).2.1]
    exact ⟨a1, a2, a3, ⟨a4.1, by have := a4.2; omega⟩, a5, a6, a7, a8, a9, a10⟩
  · have e : (fun z : Nat => (z : Int) < P.toInt ∧ ux_vG B g p V 3 z = 1) = (fun z : Nat => (z : Int) < P.toInt ∧ V 3 z = 1) := by
      funext z
      rw [ux_vG_i (by decide) (by decide) (by decide)]
    rw [e]; exact hb
/-- an orphan's bit -/
def ux_ob (B : Nat → Nat) (p : Nat) (ob P ob' : Int32) : Prop := (ux_mw B p 2 ∧ ob' = ob ||| ((1 : Int32) <<< (P &&& 31))) ∨ (¬ ux_mw B p 2 ∧ ob' = ob ||| 0)
theorem or0 (x : Int32) : x ||| (0 : Int32) = x := by
  apply Int32.toBitVec_inj.mp
  rw [Int32.toBitVec_or]
  show x.toBitVec ||| 0#32 = x.toBitVec
  exact BitVec.or_zero
/-- somebody's line -/
theorem ux_rs_P (h : ux_rs V jw br st ag fm se ob G P) (hob : ux_ob B p ob P ob') (hf : F = m_State_faceOf P) (hF : (jw1, br1) = m_State_setFace jw br F x y) (ha : ag1 = upd ag P.toNatClampNeg z) (hfm : fm1 = upd fm P.toNatClampNeg w) (hse : se1 = upd se P.toNatClampNeg (-1)) (hp : P.toInt < 8) (hP : P'.toInt = P.toInt + 1) (t : ux_t3 B (ux_te B p) x y z) (hw : w = ux_vF B (ux_te B (ux_te B (ux_te B (ux_te B p)))) ∧ iv w (-1) (G.toInt - 1)) : ux_rs (ux_vP B P.toInt.toNat p V) jw1 br1 st ag1 fm1 se1 ob' G P' := by
  obtain ⟨g0, g8, p0, p8, hg, hq, hb⟩ := h
  obtain ⟨t1, t2, t3, t4, t5, t6⟩ := t
  obtain ⟨h, eh⟩ : ∃ h : Nat, h = P.toInt.toNat := ⟨_, rfl⟩
  have ec : P.toNatClampNeg = h := by rw [eh]; rfl
  have ePh : P.toInt = (h : Int) := by omega
  have ef : F.toNatClampNeg = 8 + h := by
    have e : m_State_faceOf P = (8 : Int32) + P := rfl
    rw [hf, e]; exact ct_8 ePh (by omega)
  have eF : m_State_setFace jw br F x y = (upd jw F.toNatClampNeg x, upd br F.toNatClampNeg y) := rfl
  have hF := hF.trans eF
  have ej : jw1 = upd jw (8 + h) x := by rw [← ef]; exact congrArg Prod.fst hF
  have eb : br1 = upd br (8 + h) y := by rw [← ef]; exact congrArg Prod.snd hF
  rw [ec] at ha hfm hse
  rw [← eh]
  have e3 : (ux_vP B h p V 3 h = 1 ∧ ob' = ob ||| ((1 : Int32) <<< (P &&& 31))) ∨ (ux_vP B h p V 3 h = 0 ∧ ob' = ob) := by
    rw [ux_vP_3]
    rcases hob with ⟨m, e⟩ | ⟨m, e⟩
    · exact Or.inl ⟨ux_ip m, e⟩
    · exact Or.inr ⟨ux_in m, by rw [e, or0]⟩
  refine ⟨g0, g8, by omega, by omega, fun k hk => ?_, fun k hk => ?_, ?_⟩
  · have q : k ≠ 8 + h := by omega
    rw [ux_vP_i (by decide), ux_vP_i (by decide), ux_vP_i (by decide), ej, eb, pk_un q, pk_un q]
    exact hg k hk
  · by_cases q : k = h
    · rw [q, ux_vP_4, ux_vP_5, ux_vP_6, ux_vP_7, ← t1, ← t3, ← t5, ← hw.1, ej, eb, ha, hfm, hse]
      refine ⟨t2, t4, t6, hw.2, ?_, pk_us, pk_us, pk_us, pk_us, pk_us⟩
      rcases e3 with e | e
      · exact Or.inr e.1
      · exact Or.inl e.1
    · have q8 : 8 + k ≠ 8 + h := by omega
      rw [ux_vP_k q, ux_vP_k q, ux_vP_k q, ux_vP_k q, ux_vP_k q, ej, eb, ha, hfm, hse, pk_un q8, pk_un q8, pk_un q, pk_un q, pk_un q]
      exact hq k (by omega)
  · rcases e3 with ⟨e, eo⟩ | ⟨e, eo⟩
    · rw [eo]
      refine bs_or hb (a := h) (by omega) ePh (fun g hg8 => ⟨?_, ?_⟩)
      · rintro ⟨a1, a2⟩
        by_cases q : g = h
        · exact Or.inr q.symm
        · rw [ux_vP_k q] at a2; exact Or.inl ⟨by omega, a2⟩
      · rintro (⟨a1, a2⟩ | a)
        · exact ⟨by omega, by rw [ux_vP_k (by omega)]; exact a2⟩
        · subst a; exact ⟨by omega, e⟩
    · rw [eo]
      refine bs_w hb (fun g hg8 => ⟨?_, ?_⟩)
      · rintro ⟨a1, a2⟩
        by_cases q : g = h
        · rw [q, e] at a2; exact absurd a2 (by decide)
        · rw [ux_vP_k q] at a2; exact ⟨by omega, a2⟩
      · rintro ⟨a1, a2⟩
        exact ⟨by omega, by rw [ux_vP_k (by omega)]; exact a2⟩
/-- the family that was taken -/
def ux_fx (B : Nat → Nat) (fd x G : Int32) (q : Nat) : Prop := fd.toInt = 0 → x.toInt = (ux_tn B q : Int) ∧ x.toInt < G.toInt
theorem ux_fwy {q' : Nat} (h : ux_fx B f1 x G (ux_te B q')) (hf : f1.toInt = 0) (hm : ux_mw B q' 3) (e : q' = q) : x = ux_vF B q ∧ iv x (-1) (G.toInt - 1) := by
  subst e
  obtain ⟨h1, h2⟩ := h hf
  exact ⟨(ux_nN_of h1).trans (ux_ip hm).symm, ⟨by omega, by omega⟩⟩
theorem ux_fwn {q' : Nat} (hm : ¬ ux_mw B q' 3) (e : q' = q) (hg : 0 ≤ G.toInt) : (-1 : Int32) = ux_vF B q ∧ iv (-1 : Int32) (-1) (G.toInt - 1) := by
  subst e
  exact ⟨(ux_in hm).symm, ⟨by decide, by show (-1 : Int) ≤ _; omega⟩⟩
/-! rains -/
def ux_rr (V : Nat → Nat → Int32) (rain : Nat → Int32) (n : Int32) : Prop := n = V 9 1 ∧ 0 ≤ n.toInt ∧ n.toInt ≤ 8 ∧ ∀ k : Nat, (k : Int) < n.toInt → rain k = V 8 k ∧ iv (V 8 k) 0 9
/-- so far in the line; r: where the reading stands -/
def ux_rv (B : Nat → Nat) (p : Nat) (fd : Int32) (rain : Nat → Int32) (n : Int32) (r : Nat × Nat) : Prop := fd.toInt = 0 → r.2 = ux_ti B (n.toInt.toNat + 1) p ∧ ∀ k : Nat, (k : Int) < n.toInt → rain k = ux_nN B (ux_ti B (k + 1) p) ∧ iv (rain k) 0 9
theorem ux_rv_s (h : ux_rv B p f1 rain n r) (h1 : f1.toInt = 0) (hn : 0 ≤ n.toInt) (hx : ux_nx B f2 x (9 : Int32) (0, r.2)) (he : rain1 = upd rain n.toNatClampNeg x) (hn' : n'.toInt = n.toInt + 1) {r' : Nat × Nat} (hr : r' = ux_bn (0, r.2) (ux_nm B (9 : Int32).toInt.toNat)) : ux_rv B p f2 rain1 n' r' := by
  intro h2
  obtain ⟨a1, a2⟩ := h h1
  obtain ⟨b1, b2, b3⟩ := ux_nx1 hx h2 (by decide)
  have b1 : x = ux_nN B r.2 := b1
  have ec : n.toNatClampNeg = n.toInt.toNat := rfl
  refine ⟨?_, fun k hk => ?_⟩
  · rw [hr, b3]
    show ux_te B r.2 = _
    rw [a1, show n'.toInt.toNat + 1 = (n.toInt.toNat + 1) + 1 by omega]; rfl
  · rw [he, ec]
    by_cases q : k = n.toInt.toNat
    · rw [q, pk_us, b1, a1]
      refine ⟨rfl, ?_⟩
      rw [← a1, ← b1]; exact b2
    · rw [pk_un q]; exact a2 k (by omega)
theorem ux_rv_0 (hn : n.toInt = 0) : ux_rv B p f1 rain n (0, ux_te B p) := fun _ => by
  refine ⟨?_, fun k hk => by omega⟩
  rw [hn]; rfl
theorem ux_rv_V (h : ux_rv B p f1 rain n r) (h1 : f1.toInt = 0) (hn : 0 ≤ n.toInt) (hn8 : n.toInt ≤ 8) (hc : n.toInt.toNat = ux_rn B p) : ux_rr (ux_vR B p V) rain n := by
  obtain ⟨-, a2⟩ := h h1
  have e : ux_vR B p V 9 1 = Int32.ofNat (ux_rn B p) := (if_neg (by decide)).trans (if_pos ⟨rfl, rfl⟩)
  refine ⟨?_, hn, hn8, fun k hk => ?_⟩
  · rw [e, ← hc]
    have e1 : (Int32.ofNat n.toInt.toNat).toInt = (n.toInt.toNat : Int) := nI_toInt (by omega)
    exact Int32.toInt_inj.mp (by rw [e1]; omega)
  · have e8 : ux_vR B p V 8 k = ux_nN B (ux_ti B (k + 1) p) := if_pos rfl
    rw [e8]
    obtain ⟨c1, c2⟩ := a2 k hk
    exact ⟨c1, by rw [← c1]; exact c2⟩
/-- how many rains there are: the loop's count -/
def ux_cn (B : Nat → Nat) (p : Nat) (fd n : Int32) (r : Nat × Nat) : Prop := fd.toInt = 0 → ux_rn B p = (ux_lp (ux_rc B) (ux_rF B) (r, n.toInt.toNat)).2
theorem ux_cn_0 (hn : n.toInt = 0) : ux_cn B p f1 n (0, ux_te B p) := fun _ => by
  show (ux_lp (ux_rc B) (ux_rF B) ((0, ux_te B p), 0)).2 = _
  rw [show n.toInt.toNat = 0 by omega]
theorem ux_cn_s (h : ux_cn B p f1 n r) (h1 : f2.toInt = 0 → f1.toInt = 0) (hc : f2.toInt = 0 → ux_rc B (r, n.toInt.toNat)) {r' : Nat × Nat} (hr : f2.toInt = 0 → r' = ux_r1 B n.toInt.toNat r.2) (hn : f2.toInt = 0 → n'.toInt.toNat = n.toInt.toNat + 1) : ux_cn B p f2 n' r' := fun h2 => by
  rw [h (h1 h2), ux_lp_t (hc h2)]
  show (ux_lp (ux_rc B) (ux_rF B) (ux_r1 B n.toInt.toNat r.2, n.toInt.toNat + 1)).2 = _
  rw [← hr h2, ← hn h2]
theorem ux_cn_e (h : ux_cn B p f1 n r) (h1 : f1.toInt = 0) (hc : ¬ ux_rc B (r, n.toInt.toNat)) : n.toInt.toNat = ux_rn B p := by
  rw [h h1, ux_lp_f hc]
end UXRL
/-- certain -/
def ux_cc (B : Nat → Nat) (p : Nat) (fd ce : Int32) : Prop := fd.toInt = 0 → ce = ux_nN B (ux_te B p) ∧ iv ce 0 (99 : Int32).toInt
/-- the signs of words: what the class has for them -/
theorem ux_hW : ∀ i : Nat, i < 17 → ux_VW i → ∃ y : Int32, y.toInt = ux_WW i ∧ cen 4 id ((10000 : Int32) + wdV.getD i 0) y := by
  intro i hi hv
  have k : ∀ (j : Nat) (y x : Int32), j < 4 → y.toInt = -1 - (j : Int) → x.toInt = 10000 + (j : Int) → cen 4 id x y := fun j y x h1 h2 h3 => Or.inr (Or.inl ⟨j, h1, by omega, by show j ≤ 6; omega, h2, h3⟩)
  rcases hv with rfl | rfl | rfl | rfl
  · exact ⟨-1, by decide, k 0 _ _ (by decide) (by decide) (by decide)⟩
  · exact ⟨-2, by decide, k 1 _ _ (by decide) (by decide) (by decide)⟩
  · exact ⟨-3, by decide, k 2 _ _ (by decide) (by decide) (by decide)⟩
  · exact ⟨-4, by decide, k 3 _ _ (by decide) (by decide) (by decide)⟩
theorem ux_hS : ∀ i : Nat, i < 17 → ux_VS i → ∃ y : Int32, y.toInt = ux_WS i ∧ cen 5 vmS ((10000 : Int32) + wdV.getD i 0) y := by
  intro i hi hv
  have k : ∀ (j : Nat) (y x : Int32), j < 5 → y.toInt = -1 - (j : Int) → vmS j ≤ 6 → x.toInt = 10000 + (vmS j : Int) → cen 5 vmS x y := fun j y x h1 h2 h3 h4 => Or.inr (Or.inl ⟨j, h1, by omega, h3, h2, h4⟩)
  rcases hv with rfl | rfl | rfl | rfl | rfl
  · exact ⟨-1, by decide, k 0 _ _ (by decide) (by decide) (by decide) (by decide)⟩
  · exact ⟨-2, by decide, k 1 _ _ (by decide) (by decide) (by decide) (by decide)⟩
  · exact ⟨-3, by decide, k 2 _ _ (by decide) (by decide) (by decide) (by decide)⟩
  · exact ⟨-4, by decide, k 3 _ _ (by decide) (by decide) (by decide) (by decide)⟩
  · exact ⟨-5, by decide, k 4 _ _ (by decide) (by decide) (by decide) (by decide)⟩
theorem ux_K_0 {J : Nat} {vm : Nat → Nat} {items : Nat → Int32} {len : Int32} (h : len.toInt = 0) : ux_K J vm items len [] := ⟨by rw [h]; rfl, fun k hk => by omega⟩
/-- a rule's line -/
def ux_ru2 (B : Nat → Nat) (p : Nat) (fd : Int32) (wit : Nat → Int32) (wl : Int32) (sit : Nat → Int32) (sl : Int32) (wit' : Nat → Int32) (wl' : Int32) (sit' : Nat → Int32) (sl' : Int32) : Prop :=
  (ux_mw B p 5 ∧ sit' = sit ∧ sl' = sl ∧ ux_Kf fd 4 id wit' wl' (uc_ex B ux_VW ux_WW 6 (ux_te B p) [])) ∨ (¬ ux_mw B p 5 ∧ wit' = wit ∧ wl' = wl ∧ ux_Kf fd 5 vmS sit' sl' (uc_ex B ux_VS ux_WS 6 (ux_te B p) []))
/-- all that is told -/
def ux_RC (z : PV) (jw br st ag fm se rain wit sit : Nat → Int32) (ob G P rs ce wl sl : Int32) : Prop := ux_rs z.1 jw br st ag fm se ob G P ∧ ux_rr z.1 rain rs ∧ (ce = z.1 9 0 ∧ iv ce 0 99) ∧ ux_K 4 id wit wl z.2.1 ∧ ux_K 5 vmS sit sl z.2.2
def ux_RCf (fd : Int32) (z : PV) (jw br st ag fm se rain wit sit : Nat → Int32) (ob G P rs ce wl sl : Int32) : Prop := fd.toInt = 0 → ux_RC z jw br st ag fm se rain wit sit ob G P rs ce wl sl
/-- at the end; t: how many there are, and all -/
def ux_RE (t : ((Nat × Nat) × Nat × Nat × Nat × Nat × Nat × Nat) × PV) (jw br st ag fm se rain wit sit : Nat → Int32) (ob G P rs ce wl sl : Int32) : Prop := ux_RC t.2 jw br st ag fm se rain wit sit ob G P rs ce wl sl ∧ G.toInt = (t.1.2.1 : Int) ∧ P.toInt = (t.1.2.2.1 : Int)
section UXRC
variable {B : Nat → Nat} {z : PV} {s : (Nat × Nat) × Nat × Nat × Nat × Nat × Nat × Nat} {jw br st ag fm se rain wit sit jw' br' st' ag' fm' se' rain' wit' sit' f : Nat → Int32} {ob G P rs ce wl sl ob' G' P' rs' ce' wl' sl' f0 f1 f2 n n' : Int32} {p q k j : Nat} {X : ((Nat × Nat) × Nat × Nat × Nat × Nat × Nat × Nat) × PV}
theorem ux_RC_0 (h1 : ob.toInt = 0) (h2 : G.toInt = 0) (h3 : P.toInt = 0) (h4 : rs.toInt = 0) (h5 : ce.toInt = 30) (h6 : wl.toInt = 0) (h7 : sl.toInt = 0) : ux_RCf f0 ux_V0 jw br st ag fm se rain wit sit ob G P rs ce wl sl := by
  intro _
  have eo : ob = 0 := Int32.toInt_inj.mp h1
  have er : rs = 0 := Int32.toInt_inj.mp h4
  have ec : ce = 30 := Int32.toInt_inj.mp h5
  refine ⟨⟨by omega, by omega, by omega, by omega, fun k hk => by omega, fun k hk => by omega, ?_⟩, ⟨?_, by omega, by omega, fun k hk => by omega⟩, ⟨?_, by omega, by omega⟩, ux_K_0 h6, ux_K_0 h7⟩
  · rw [eo]; exact bs_0 (fun g hg w => by have := w.1; omega)
  · rw [er]; rfl
  · rw [ec]; rfl
theorem ux_RC_G (h : ux_RCf f0 z jw br st ag fm se rain wit sit ob G P rs ce wl sl) (h0 : f0.toInt = 0) (hm : ux_mw B s.1.2 0) (hg : G.toInt.toNat = s.2.1) (h12 : f2.toInt = 0 → f1.toInt = 0) (hp : ∀ V : Nat → Nat → Int32, ux_rs V jw br st ag fm se ob G P → f1.toInt = 0 → ux_rs (ux_vG B G.toInt.toNat s.1.2 V) jw' br' st' ag fm se ob G' P) : ux_RCf f2 (ux_lv B s z) jw' br' st' ag fm se rain wit sit ob G' P rs ce wl sl := by
  intro h2
  obtain ⟨a1, a2, a3, a4, a5⟩ := h h0
  have b := hp z.1 a1 (h12 h2)
  rw [ux_lv0 hm, ← hg]
  refine ⟨b, ?_, ?_, a4, a5⟩
  · obtain ⟨c1, c2, c3, c4⟩ := a2
    refine ⟨?_, c2, c3, fun k hk => ?_⟩
    · show rs = ux_vG B G.toInt.toNat s.1.2 z.1 9 1
      rw [ux_vG_i (by decide) (by decide) (by decide)]; exact c1
    · show rain k = ux_vG B G.toInt.toNat s.1.2 z.1 8 k ∧ iv (ux_vG B G.toInt.toNat s.1.2 z.1 8 k) 0 9
      rw [ux_vG_i (by decide) (by decide) (by decide)]; exact c4 k hk
  · show ce = ux_vG B G.toInt.toNat s.1.2 z.1 9 0 ∧ _
    rw [ux_vG_i (by decide) (by decide) (by decide)]; exact a3
theorem ux_RC_P (h : ux_RCf f0 z jw br st ag fm se rain wit sit ob G P rs ce wl sl) (h0 : f0.toInt = 0) (hm : ux_mw B s.1.2 1 ∨ ux_mw B s.1.2 2) (hg : P.toInt.toNat = s.2.2.1) (h12 : f2.toInt = 0 → f1.toInt = 0) (hp : ∀ V : Nat → Nat → Int32, ux_rs V jw br st ag fm se ob G P → f1.toInt = 0 → ux_rs (ux_vP B P.toInt.toNat s.1.2 V) jw' br' st ag' fm' se' ob' G P') : ux_RCf f2 (ux_lv B s z) jw' br' st ag' fm' se' rain wit sit ob' G P' rs ce wl sl := by
  intro h2
  obtain ⟨a1, a2, a3, a4, a5⟩ := h h0
  have b := hp z.1 a1 (h12 h2)
  rw [ux_lv1 hm, ← hg]
  refine ⟨b, ?_, ?_, a4, a5⟩
  · obtain ⟨c1, c2, c3, c4⟩ := a2
    refine ⟨?_, c2, c3, fun k hk => ?_⟩
    · show rs = ux_vP B P.toInt.toNat s.1.2 z.1 9 1
      rw [ux_vP_i (by decide)]; exact c1
    · show rain k = ux_vP B P.toInt.toNat s.1.2 z.1 8 k ∧ iv (ux_vP B P.toInt.toNat s.1.2 z.1 8 k) 0 9
      rw [ux_vP_i (by decide)]; exact c4 k hk
  · show ce = ux_vP B P.toInt.toNat s.1.2 z.1 9 0 ∧ _
    rw [ux_vP_i (by decide)]; exact a3
theorem ux_vR_i {V : Nat → Nat → Int32} {i : Nat} (h : i < 8) : ux_vR B p V i k = V i k := (if_neg (by omega)).trans (if_neg (fun w => by have := w.1; omega))
theorem ux_vR_9 {V : Nat → Nat → Int32} : ux_vR B p V 9 0 = V 9 0 := (if_neg (by omega)).trans (if_neg (fun w => by have := w.2; omega))
theorem ux_RC_R (h : ux_RCf f0 z jw br st ag fm se rain wit sit ob G P rs ce wl sl) (h0 : f0.toInt = 0) (hm : ux_mw B s.1.2 10) (h12 : f2.toInt = 0 → f1.toInt = 0) (hp : ∀ V : Nat → Nat → Int32, f1.toInt = 0 → ux_rr (ux_vR B s.1.2 V) rain' rs') : ux_RCf f2 (ux_lv B s z) jw br st ag fm se rain' wit sit ob G P rs' ce wl sl := by
  intro h2
  obtain ⟨⟨g0, g8, p0, p8, hg, hq, hb⟩, a2, a3, a4, a5⟩ := h h0
  rw [ux_lv10 hm]
  refine ⟨⟨g0, g8, p0, p8, fun k hk => ?_, fun k hk => ?_, ?_⟩, hp z.1 (h12 h2), ?_, a4, a5⟩
  · show iv (ux_vR B s.1.2 z.1 0 k) 0 9 ∧ iv (ux_vR B s.1.2 z.1 1 k) 0 9 ∧ iv (ux_vR B s.1.2 z.1 2 k) 0 99 ∧ st k = ux_vR B s.1.2 z.1 2 k ∧ jw k = (if ux_vR B s.1.2 z.1 2 k = 0 then 0 else ux_vR B s.1.2 z.1 0 k) ∧ br k = (if ux_vR B s.1.2 z.1 2 k = 0 then 0 else ux_vR B s.1.2 z.1 1 k)
    rw [ux_vR_i (by decide), ux_vR_i (by decide), ux_vR_i (by decide)]; exact hg k hk
  · show iv (ux_vR B s.1.2 z.1 4 k) 0 9 ∧ iv (ux_vR B s.1.2 z.1 5 k) 0 9 ∧ iv (ux_vR B s.1.2 z.1 6 k) 0 99 ∧ iv (ux_vR B s.1.2 z.1 7 k) (-1) (G.toInt - 1) ∧ (ux_vR B s.1.2 z.1 3 k = 0 ∨ ux_vR B s.1.2 z.1 3 k = 1) ∧ jw (8 + k) = ux_vR B s.1.2 z.1 4 k ∧ br (8 + k) = ux_vR B s.1.2 z.1 5 k ∧ ag k = ux_vR B s.1.2 z.1 6 k ∧ fm k = ux_vR B s.1.2 z.1 7 k ∧ se k = -1
    rw [ux_vR_i (by decide), ux_vR_i (by decide), ux_vR_i (by decide), ux_vR_i (by decide), ux_vR_i (by decide)]; exact hq k hk
  · have e : (fun y : Nat => (y : Int) < P.toInt ∧ ux_vR B s.1.2 z.1 3 y = 1) = (fun y : Nat => (y : Int) < P.toInt ∧ z.1 3 y = 1) := by
      funext y
      rw [ux_vR_i (by decide)]
    show bs ob (fun y : Nat => (y : Int) < P.toInt ∧ ux_vR B s.1.2 z.1 3 y = 1)
    rw [e]; exact hb
  · show ce = ux_vR B s.1.2 z.1 9 0 ∧ _
    rw [ux_vR_9]; exact a3
theorem ux_vC_i {V : Nat → Nat → Int32} {i : Nat} (h : i < 9 ∨ k ≠ 0) : ux_vC B p V i k = V i k := if_neg (fun w => by have := w.1; have := w.2; omega)
theorem ux_RC_C (h : ux_RCf f0 z jw br st ag fm se rain wit sit ob G P rs ce wl sl) (h0 : f0.toInt = 0) (hm : ux_mw B s.1.2 4) (h12 : f2.toInt = 0 → f1.toInt = 0) (hp : ux_cc B s.1.2 f1 ce') : ux_RCf f2 (ux_lv B s z) jw br st ag fm se rain wit sit ob G P rs ce' wl sl := by
  intro h2
  obtain ⟨⟨g0, g8, p0, p8, hg, hq, hb⟩, ⟨c1, c2, c3, c4⟩, a3, a4, a5⟩ := h h0
  have t := hp (h12 h2)
  rw [ux_lv4 hm]
  refine ⟨⟨g0, g8, p0, p8, fun k hk => ?_, fun k hk => ?_, ?_⟩, ⟨?_, c2, c3, fun k hk => ?_⟩, ⟨?_, t.2⟩, a4, a5⟩
  · show iv (ux_vC B s.1.2 z.1 0 k) 0 9 ∧ iv (ux_vC B s.1.2 z.1 1 k) 0 9 ∧ iv (ux_vC B s.1.2 z.1 2 k) 0 99 ∧ st k = ux_vC B s.1.2 z.1 2 k ∧ jw k = (if ux_vC B s.1.2 z.1 2 k = 0 then 0 else ux_vC B s.1.2 z.1 0 k) ∧ br k = (if ux_vC B s.1.2 z.1 2 k = 0 then 0 else ux_vC B s.1.2 z.1 1 k)
    rw [ux_vC_i (by omega), ux_vC_i (by omega), ux_vC_i (by omega)]; exact hg k hk
  · show iv (ux_vC B s.1.2 z.1 4 k) 0 9 ∧ iv (ux_vC B s.1.2 z.1 5 k) 0 9 ∧ iv (ux_vC B s.1.2 z.1 6 k) 0 99 ∧ iv (ux_vC B s.1.2 z.1 7 k) (-1) (G.toInt - 1) ∧ (ux_vC B s.1.2 z.1 3 k = 0 ∨ ux_vC B s.1.2 z.1 3 k = 1) ∧ jw (8 + k) = ux_vC B s.1.2 z.1 4 k ∧ br (8 + k) = ux_vC B s.1.2 z.1 5 k ∧ ag k = ux_vC B s.1.2 z.1 6 k ∧ fm k = ux_vC B s.1.2 z.1 7 k ∧ se k = -1
    rw [ux_vC_i (by omega), ux_vC_i (by omega), ux_vC_i (by omega), ux_vC_i (by omega), ux_vC_i (by omega)]; exact hq k hk
  · have e : (fun y : Nat => (y : Int) < P.toInt ∧ ux_vC B s.1.2 z.1 3 y = 1) = (fun y : Nat => (y : Int) < P.toInt ∧ z.1 3 y = 1) := by
      funext y
      rw [ux_vC_i (by omega)]
    show bs ob (fun y : Nat => (y : Int) < P.toInt ∧ ux_vC B s.1.2 z.1 3 y = 1)
    rw [e]; exact hb
  · show rs = ux_vC B s.1.2 z.1 9 1
    rw [ux_vC_i (by omega)]; exact c1
  · show rain k = ux_vC B s.1.2 z.1 8 k ∧ iv (ux_vC B s.1.2 z.1 8 k) 0 9
    rw [ux_vC_i (by omega)]; exact c4 k hk
  · show ce' = ux_vC B s.1.2 z.1 9 0
    rw [t.1]; exact ux_u2s.symm
theorem ux_RC_W (h : ux_RCf f0 z jw br st ag fm se rain wit sit ob G P rs ce wl sl) (h0 : f0.toInt = 0) (hm : ux_mw B s.1.2 5) (h12 : f2.toInt = 0 → f1.toInt = 0) (hp : ux_ru2 B s.1.2 f1 wit wl sit sl wit' wl' sit' sl') : ux_RCf f2 (ux_lv B s z) jw br st ag fm se rain wit' sit' ob G P rs ce wl' sl' := by
  intro h2
  obtain ⟨a1, a2, a3, a4, a5⟩ := h h0
  rw [ux_lv5 hm]
  rcases hp with ⟨-, b1, b2, b3⟩ | ⟨b, -⟩
  · rw [b1, b2]; exact ⟨a1, a2, a3, b3 (h12 h2), a5⟩
  · exact absurd hm b
theorem ux_RC_S (h : ux_RCf f0 z jw br st ag fm se rain wit sit ob G P rs ce wl sl) (h0 : f0.toInt = 0) (hm : ux_mw B s.1.2 6) (h12 : f2.toInt = 0 → f1.toInt = 0) (hp : ux_ru2 B s.1.2 f1 wit wl sit sl wit' wl' sit' sl') : ux_RCf f2 (ux_lv B s z) jw br st ag fm se rain wit' sit' ob G P rs ce wl' sl' := by
  intro h2
  obtain ⟨a1, a2, a3, a4, a5⟩ := h h0
  rw [ux_lv6 hm]
  rcases hp with ⟨b, -⟩ | ⟨-, b1, b2, b3⟩
  · exact absurd b (ux_mwn hm (by decide) (by decide) (by decide))
  · rw [b1, b2]; exact ⟨a1, a2, a3, a4, b3 (h12 h2)⟩
theorem ux_RC_e (hn : n.toInt = n'.toInt) (q : ux_pv (ux_B f n) = (s, z)) (h : ux_RC z jw br st ag fm se rain wit sit ob G P rs ce wl sl) (hg : G.toInt = (s.2.1 : Int)) (hp : P.toInt = (s.2.2.1 : Int)) : ux_RE (ux_pv (ux_B f n')) jw br st ag fm se rain wit sit ob G P rs ce wl sl := by
  have e : n = n' := Int32.toInt_inj.mp hn
  rw [← e, q]; exact ⟨h, hg, hp⟩
end UXRC
