/-! what calls show: the tape, the fault's place, the image -/
theorem ux_fin_r {fd pl x : Int32} {t : Nat × Nat} (h : ux_fin fd pl t) (e : x.toInt = fd.toInt) : ux_fin x pl t := ⟨e.trans h.1, h.2.1, h.2.2⟩
/-- tape's length, its signs, the fault's place, whether there is an image -/
abbrev OB := Int × (Nat → Nat) × Int × Int
def ux_ft (ft : Nat → Nat) (t : Int) (a b c d e : Int32) (k : Nat) : Nat := if (k : Int) < t then ft k else ux_20 a b c d e (k - t.toNat)
def ux_Bt (ft : Nat → Nat) (p : Int) (k : Nat) : Nat := if (k : Int) < p then ft k else 0
noncomputable def ux_to (o : OB) (p : Int) : OB := (0, o.2.1, (if (ux_tw (ux_Bt o.2.1 p)).1 = 0 then -1 else ((ux_tw (ux_Bt o.2.1 p)).2 : Int)), (if (ux_tw (ux_Bt o.2.1 p)).1 = 0 then 0 else o.2.2.2))
section UXO
variable {f f' : Nat → Int32} {t p r fp im im' a b c d e : Int32} {o : OB}
theorem ux_ft_of (h : ux_fe f f' t.toInt 20 a b c d e) (ht : t.toInt = o.1) (hft : ∀ k : Nat, (k : Int) < o.1 → ux_cd (f k) = o.2.1 k) : ∀ k : Nat, (k : Int) < o.1 + 20 → ux_cd (f' k) = ux_ft o.2.1 o.1 a b c d e k := fun k hk => by
  rw [h k (by omega)]
  unfold ux_ft
  by_cases w : (k : Int) < t.toInt
  · rw [if_pos w, if_pos (by omega)]; exact hft k (by omega)
  · rw [if_neg w, if_neg (by omega), ht]
theorem ux_B_t (hft : ∀ k : Nat, (k : Int) < o.1 → ux_cd (f k) = o.2.1 k) (hp : p.toInt ≤ o.1) : ux_B f p = ux_Bt o.2.1 p.toInt := by
  funext k
  rw [ux_B_cd]
  unfold ux_Bt
  by_cases w : (k : Int) < p.toInt
  · rw [if_pos w, if_pos w]; exact hft k (by omega)
  · rw [if_neg w, if_neg w]
theorem ux_to_r (h : ux_fin r fp (ux_tw (ux_B f p))) (hft : ∀ k : Nat, (k : Int) < o.1 → ux_cd (f k) = o.2.1 k) (hp : p.toInt ≤ o.1) : r.toInt = ((ux_tw (ux_Bt o.2.1 p.toInt)).1 : Int) := by
  rw [← ux_B_t hft hp]; exact h.1
theorem ux_to_fp (h : ux_fin r fp (ux_tw (ux_B f p))) (hft : ∀ k : Nat, (k : Int) < o.1 → ux_cd (f k) = o.2.1 k) (hp : p.toInt ≤ o.1) : fp.toInt = (ux_to o p.toInt).2.2.1 := by
  show fp.toInt = if (ux_tw (ux_Bt o.2.1 p.toInt)).1 = 0 then -1 else ((ux_tw (ux_Bt o.2.1 p.toInt)).2 : Int)
  rw [← ux_B_t hft hp]
  by_cases w : (ux_tw (ux_B f p)).1 = 0
  · rw [if_pos w]; exact h.2.2 w
  · rw [if_neg w]; exact h.2.1 w
theorem ux_to_im (h : ux_fin r fp (ux_tw (ux_B f p))) (hft : ∀ k : Nat, (k : Int) < o.1 → ux_cd (f k) = o.2.1 k) (hp : p.toInt ≤ o.1) (him : im.toInt = o.2.2.2) (hi : (r.toInt ≠ 0 ∧ im'.toInt = im.toInt) ∨ (r.toInt = 0 ∧ im'.toInt = 0)) : im'.toInt = (ux_to o p.toInt).2.2.2 := by
  have hr := ux_to_r h hft hp
  show im'.toInt = if (ux_tw (ux_Bt o.2.1 p.toInt)).1 = 0 then 0 else o.2.2.2
  by_cases w : (ux_tw (ux_Bt o.2.1 p.toInt)).1 = 0
  · rw [if_pos w]; omega
  · rw [if_neg w]; omega
end UXO
/-! what the class takes over of a text -/
def ux_TG (t : ((Nat × Nat) × Nat × Nat × Nat × Nat × Nat × Nat) × PV) (pj pb ps pa pf pse rain wit sit : Nat → Int32) (ob G P rs ce wl sl : Int32) (jw br st ag fm se : Nat → Int32) (NG NP NY asz ssz : Int32) : Prop :=
  ux_RE t pj pb ps pa pf pse rain wit sit ob G P rs ce wl sl ∧ (∀ k : Nat, k < 16 → jw k = pj k ∧ br k = pb k) ∧ (∀ k : Nat, k < 8 → st k = ps k ∧ ag k = pa k ∧ fm k = pf k ∧ se k = pse k) ∧ NG = G ∧ NP = P ∧ NY.toInt = 0 ∧ asz = 0 ∧ ssz = 0
section UXTG
variable {t : ((Nat × Nat) × Nat × Nat × Nat × Nat × Nat × Nat) × PV} {pj pb ps pa pf pse rain wit sit pj2 pb2 ps2 pa2 pf2 pse2 rain2 wit2 sit2 jw br st ag fm se jw2 br2 st2 ag2 fm2 se2 oj ob' os oa of' ose orn ow osi : Nat → Int32} {ob G P rs ce wl sl ob2 G2 P2 rs2 ce2 wl2 sl2 NG NP NY asz ssz y dy ict ict2 y2 : Int32}
theorem ux_K_c {J : Nat} {vm : Nat → Nat} {items items' : Nat → Int32} {len : Int32} {l : List Int} (h : ux_K J vm items len l) (e : ∀ k : Nat, (k : Int) < len.toInt → items' k = items k) : ux_K J vm items' len l := ⟨h.1, fun k hk => by rw [e k hk]; exact h.2 k hk⟩
theorem ux_RE_c (h : ux_RE t pj pb ps pa pf pse rain wit sit ob G P rs ce wl sl) (e1 : ∀ k : Nat, k < 16 → pj2 k = pj k ∧ pb2 k = pb k) (e2 : ∀ k : Nat, k < 8 → ps2 k = ps k ∧ pa2 k = pa k ∧ pf2 k = pf k ∧ pse2 k = pse k ∧ rain2 k = rain k) (e3 : ∀ k : Nat, (k : Int) < wl.toInt → wit2 k = wit k) (e4 : ∀ k : Nat, (k : Int) < sl.toInt → sit2 k = sit k) : ux_RE t pj2 pb2 ps2 pa2 pf2 pse2 rain2 wit2 sit2 ob G P rs ce wl sl := by
  obtain ⟨⟨⟨g0, g8, p0, p8, hg, hq, hb⟩, ⟨c1, c2, c3, c4⟩, a3, a4, a5⟩, h2, h3⟩ := h
  refine ⟨⟨⟨g0, g8, p0, p8, fun k hk => ?_, fun k hk => ?_, hb⟩, ⟨c1, c2, c3, fun k hk => ?_⟩, a3, ux_K_c a4 e3, ux_K_c a5 e4⟩, h2, h3⟩
  · rw [(e1 k (by omega)).1, (e1 k (by omega)).2, (e2 k (by omega)).1]; exact hg k hk
  · have k8 : k < 8 := by omega
    rw [(e1 (8 + k) (by omega)).1, (e1 (8 + k) (by omega)).2, (e2 k k8).2.1, (e2 k k8).2.2.1, (e2 k k8).2.2.2.1]; exact hq k hk
  · rw [(e2 k (by omega)).2.2.2.2]; exact c4 k hk
theorem ux_TG_of (h : ux_RE t pj pb ps pa pf pse rain wit sit ob G P rs ce wl sl) (hy : dy.toInt = 0)
    (e1 : (G2, P2, y2, pj2, pb2, ps2, pa2, pf2, pse2, ob2, rs2, ce2, ict2, rain2, wit2, sit2, wl2, sl2) = m_Plan_copyFrom oj ob' os oa of' ose orn ow osi ob rs ce ict G P dy pj pb ps pa pf pse rain wl wit sl sit)
    (e2 : (NG, NP, NY, jw2, br2, st2, ag2, fm2, se2, asz, ssz) = m_Memory_beginAnew jw br st ag fm se G2 P2 y2 pj2 pb2 ps2 pa2 pf2 pse2) : ux_TG t pj2 pb2 ps2 pa2 pf2 pse2 rain2 wit2 sit2 ob2 G2 P2 rs2 ce2 wl2 sl2 jw2 br2 st2 ag2 fm2 se2 NG NP NY asz ssz := by
  have E1 : m_Plan_copyFrom oj ob' os oa of' ose orn ow osi ob rs ce ict G P dy pj pb ps pa pf pse rain wl wit sl sit = (G, P, dy, va_cpy pj oj 0 0 16, va_cpy pb ob' 0 0 16, va_cpy ps os 0 0 8, va_cpy pa oa 0 0 8, va_cpy pf of' 0 0 8, va_cpy pse ose 0 0 8, ob, rs, ce, ict, va_cpy rain orn 0 0 8, va_cpy wit ow 0 0 wl.toNatClampNeg, va_cpy sit osi 0 0 sl.toNatClampNeg, wl, sl) := rfl
  rw [E1] at e1
  simp only [Prod.mk.injEq] at e1
  obtain ⟨rfl, rfl, rfl, rfl, rfl, rfl, rfl, rfl, rfl, rfl, rfl, rfl, rfl, rfl, rfl, rfl, rfl, rfl⟩ := e1
  have E2 : m_Memory_beginAnew jw br st ag fm se G2 P2 y2 (va_cpy pj oj 0 0 16) (va_cpy pb ob' 0 0 16) (va_cpy ps os 0 0 8) (va_cpy pa oa 0 0 8) (va_cpy pf of' 0 0 8) (va_cpy pse ose 0 0 8) = (G2, P2, y2, va_cpy (va_cpy pj oj 0 0 16) jw 0 0 16, va_cpy (va_cpy pb ob' 0 0 16) br 0 0 16, va_cpy (va_cpy ps os 0 0 8) st 0 0 8, va_cpy (va_cpy pa oa 0 0 8) ag 0 0 8, va_cpy (va_cpy pf of' 0 0 8) fm 0 0 8, va_cpy (va_cpy pse ose 0 0 8) se 0 0 8, 0, 0) := rfl
  rw [E2] at e2
  simp only [Prod.mk.injEq] at e2
  obtain ⟨rfl, rfl, rfl, rfl, rfl, rfl, rfl, rfl, rfl, rfl, rfl⟩ := e2
  refine ⟨ux_RE_c h (fun k hk => ⟨sb_cpy0 hk, sb_cpy0 hk⟩) (fun k hk => ⟨sb_cpy0 hk, sb_cpy0 hk, sb_cpy0 hk, sb_cpy0 hk, sb_cpy0 hk⟩) (fun k hk => sb_cpy0 (by show k < wl2.toInt.toNat; omega)) (fun k hk => sb_cpy0 (by show k < sl2.toInt.toNat; omega)), fun k hk => ⟨sb_cpy0 hk, sb_cpy0 hk⟩, fun k hk => ⟨sb_cpy0 hk, sb_cpy0 hk, sb_cpy0 hk, sb_cpy0 hk⟩, rfl, rfl, hy, rfl, rfl⟩
end UXTG
