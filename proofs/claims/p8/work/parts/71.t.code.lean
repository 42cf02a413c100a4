/-! the class's rules: the signs that they lay (DRAFT, not yet compiled) -/
theorem cen_op {J : Nat} {vm : Nat → Nat} {x y : Int32} (h : opn x.toInt y.toInt) : cen J vm x y := Or.inr (Or.inr (Or.inr h))
section UXK
variable {f : Nat → Int32} {n a b c st kd nb fd pl z : Int32} {wd : Option Nat} {r : Nat × Nat} {p k d : Nat} {B : Nat → Nat} {V : Nat → Prop} {W : Nat → Int} {E : Nat → Nat × Nat} {EC : Nat → List Int → List Int} {l X : List Int} {s : Int}
theorem uc_pt1 (h : ux_S f n a st kd wd nb fd pl (0, p)) (hf : fd.toInt = 0) (hk : kd.toInt = 40) : uc_pt (ux_B f n) W EC p l = EC (ux_te (ux_B f n) p) l := by
  have q : kd.toInt = (ux_tk (ux_B f n) p : Int) := ux_S_k h hf
  unfold uc_pt; rw [if_pos (by omega)]
theorem uc_pt2 (h : ux_S f n a st kd wd nb fd pl (0, p)) (hf : fd.toInt = 0) (hk : kd.toInt = 1) : uc_pt (ux_B f n) W EC p l = l ++ [W (ux_ci (ux_B f n) p)] := by
  have q : kd.toInt = (ux_tk (ux_B f n) p : Int) := ux_S_k h hf
  unfold uc_pt; rw [if_neg (by omega), if_pos (by omega)]
theorem uc_pt3 (h : ux_S f n a st kd wd nb fd pl (0, p)) (hf : fd.toInt = 0) (hk : kd.toInt ≠ 40) (hk1 : kd.toInt ≠ 1) : uc_pt (ux_B f n) W EC p l = l ++ [(ux_tn (ux_B f n) p : Int)] := by
  have q : kd.toInt = (ux_tk (ux_B f n) p : Int) := ux_S_k h hf
  unfold uc_pt; rw [if_neg (by omega), if_neg (by omega)]
theorem uc_ts1 (h : ux_cp B 60 61 (ux_sm B V E p)) : uc_ts B V W E EC p l = uc_sm B V W E EC (ux_te B (ux_sm B V E p).2) (uc_sm B V W E EC p l) ++ [uc_o3 B (ux_sm B V E p).2] := ux_ip h
theorem uc_ts0 (h : ¬ ux_cp B 60 61 (ux_sm B V E p)) : uc_ts B V W E EC p l = uc_sm B V W E EC p l := ux_in h
theorem uc_nt_0 (h : z.toInt = 0) : uc_nt B V W E EC 6 p l = uc_nt B V W E EC (6 - z.toNatClampNeg) (0, p).2 l ++ List.replicate z.toNatClampNeg (-28) := by
  have e : z.toNatClampNeg = 0 := by show z.toInt.toNat = 0; omega
  rw [e]
  show _ = uc_nt B V W E EC 6 p l ++ []
  rw [List.append_nil]
theorem uc_nt_s (hm : ux_mw B p 9) (h0 : 0 ≤ z.toInt) (h6 : z.toInt < 6) (hc : c.toInt = z.toInt + 1) : uc_nt B V W E EC (6 - z.toNatClampNeg) p l ++ List.replicate z.toNatClampNeg (-28) = uc_nt B V W E EC (6 - c.toNatClampNeg) (ux_te B p) l ++ List.replicate c.toNatClampNeg (-28) := by
  have e1 : c.toNatClampNeg = z.toNatClampNeg + 1 := by show c.toInt.toNat = z.toInt.toNat + 1; omega
  have e2 : z.toNatClampNeg < 6 := by show z.toInt.toNat < 6; omega
  rw [e1]
  generalize z.toNatClampNeg = j at e2 ⊢
  have e3 : 6 - j = (6 - (j + 1)) + 1 := by omega
  rw [e3, List.replicate_succ]
  show ux_if (ux_mw B p 9) (uc_nt B V W E EC (6 - (j + 1)) (ux_te B p) l ++ [-28]) _ ++ _ = _
  rw [ux_ip hm, List.append_assoc]; rfl
theorem uc_nt_b (hm : ¬ ux_mw B p 9) : uc_nt B V W E EC k p l = uc_ts B V W E EC p l := by
  cases k with
  | zero => rfl
  | succ k => exact ux_in hm
theorem uc_nt_51 {j : Nat} (q : X = uc_nt B V W E EC k p l ++ List.replicate j s) (hm : ¬ ux_mw B p 9) (hz : z.toNatClampNeg = 0) : X = uc_ts B V W E EC p l ++ List.replicate (j - z.toNatClampNeg) s := by
  rw [q, uc_nt_b hm, hz, Nat.sub_zero]
theorem uc_rep0 {i j : Nat} (q : X = l ++ List.replicate (i - j) s) (h : i ≤ j) : X = l := by
  rw [q, Nat.sub_eq_zero_of_le h]
  show l ++ [] = l
  rw [List.append_nil]
theorem uc_rep1 (q : X = l ++ List.replicate (a.toNatClampNeg - z.toNatClampNeg) s) (h : 0 ≤ z.toInt ∧ z.toInt < a.toInt) (hb : b.toInt = z.toInt + 1) : X = (l ++ [s]) ++ List.replicate (a.toNatClampNeg - b.toNatClampNeg) s := by
  have e : a.toNatClampNeg - z.toNatClampNeg = (a.toNatClampNeg - b.toNatClampNeg) + 1 := by
    show a.toInt.toNat - z.toInt.toNat = (a.toInt.toNat - b.toInt.toNat) + 1; omega
  rw [q, e, List.replicate_succ, List.append_assoc]; rfl
theorem uc_ex_s (h : 1 ≤ d) : uc_ex B V W d p l = uc_or B V W (ux_ex B V (d - 1)) (uc_ex B V W (d - 1)) p l := by
  obtain ⟨e, rfl⟩ : ∃ e : Nat, d = e + 1 := ⟨d - 1, by omega⟩
  rfl
end UXK
