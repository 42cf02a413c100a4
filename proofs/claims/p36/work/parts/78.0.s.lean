/-! what calls show: the tape, the fault's place, the image -/
theorem ux_fin_r {fd pl x : Int32} {t : Nat × Nat} (h : ux_fin fd pl t) (e : x.toInt = fd.toInt) : ux_fin x pl t := ⟨e.trans h.1, h.2.1, h.2.2⟩
/-- tape's length, its signs, the fault's place, whether there is an image -/
abbrev OB := Int × (Nat → Nat) × Int × Int
def ux_ft (ft : Nat → Nat) (t : Int) (a b c d e : Int32) (k : Nat) : Nat := if (k : Int) < t then ft k else ux_20 a b c d e (k - t.toNat)
def ux_Bt (ft : Nat → Nat) (p : Int) (k : Nat) : Nat := if (k : Int) < p then ft k else 0
noncomputable def ux_to (o : OB) (p : Int) : OB := (0, o.2.1, (if (ux_tw (ux_Bt o.2.1 p)).1 = 0 then -1 else ((ux_tw (ux_Bt o.2.1 p)).2 : Int)), (if (ux_tw (ux_Bt o.2.1 p)).1 = 0 then 0 else o.2.2.2))
section UXO
variable {f f' : Nat → Int32} {t p r fp im im' a b c d e : Int32} {o : OB}
theorem ux_ft_of (h : ux_fe f f' t.toInt 20 a b c d e) (ht : t.toInt = o.1) (hft : ∀ k : Nat, (k : Int) < o.1 → ux_cd (f k) = o.2.1 k) : ∀ k : Nat, (k : Int) < o.1 + 20 → ux_cd (f' k) = ux_ft o.2.1 o.1 a b c d e k := fun k hk => by
  rw [h k (by omega)]
  unfold ux_ft
  by_cases w : (k : Int) < t.toInt
  · rw [if_pos w, if_pos (by omega)]; exact hft k (by omega)
  · rw [if_neg w, if_neg (by omega), ht]
theorem ux_B_t (hft : ∀ k : Nat, (k : Int) < o.1 → ux_cd (f k) = o.2.1 k) (hp : p.toInt ≤ o.1) : ux_B f p = ux_Bt o.2.1 p.toInt := by
  funext k
  rw [ux_B_cd]
  unfold ux_Bt
  by_cases w : (k : Int) < p.toInt
  · rw [if_pos w, if_pos w]; exact hft k (by omega)
  · rw [if_neg w, if_neg w]
theorem ux_to_r (h : ux_fin r fp (ux_tw (ux_B f p))) (hft : ∀ k : Nat, (k : Int) < o.1 → ux_cd (f k) = o.2.1 k) (hp : p.toInt ≤ o.1) : r.toInt = ((ux_tw (ux_Bt o.2.1 p.toInt)).1 : Int) := by
  rw [← ux_B_t hft hp]; exact h.1
theorem ux_to_fp (h : ux_fin r fp (ux_tw (ux_B f p))) (hft : ∀ k : Nat, (k : Int) < o.1 → ux_cd (f k) = o.2.1 k) (hp : p.toInt ≤ o.1) : fp.toInt = (ux_to o p.toInt).2.2.1 := by
  show fp.toInt = if (ux_tw (ux_Bt o.2.1 p.toInt)).1 = 0 then -1 else ((ux_tw (ux_Bt o.2.1 p.toInt)).2 : Int)
  rw [← ux_B_t hft hp]
  by_cases w : (ux_tw (ux_B f p)).1 = 0
  · rw [if_pos w]; exact h.2.2 w
  · rw [if_neg w]; exact h.2.1 w
theorem ux_to_im (h : ux_fin r fp (ux_tw (ux_B f p))) (hft : ∀ k : Nat, (k : Int) < o.1 → ux_cd (f k) = o.2.1 k) (hp : p.toInt ≤ o.1) (him : im.toInt = o.2.2.2) (hi : (r.toInt ≠ 0 ∧ im'.toInt = im.toInt) ∨ (r.toInt = 0 ∧ im'.toInt = 0)) : im'.toInt = (ux_to o p.toInt).2.2.2 := by
  have hr := ux_to_r h hft hp
  show im'.toInt = if (ux_tw (ux_Bt o.2.1 p.toInt)).1 = 0 then 0 else o.2.2.2
  by_cases w : (ux_tw (ux_Bt o.2.1 p.toInt)).1 = 0
  · rw [if_pos w]; omega
  · rw [if_neg w]; omega
end UXO
