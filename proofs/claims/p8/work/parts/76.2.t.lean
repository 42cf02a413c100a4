/-! the grammar of a rule, as the reference goes through it -/
section UXN
variable {f : Nat → Int32} {n a b c i s e bg sp tk nb bd bp x y z : Int32} {r r' : Nat × Nat} {p k j N m : Nat} {B : Nat → Nat} {V : Nat → Prop} {E F G : Nat → Nat × Nat} {P : Prop}
theorem ux_M_k2 (h : ux_M f n a bg sp tk nb bd bp r) (hf : bd.toInt = 0) (hk : tk.toInt = 2) : ux_tk (ux_B f n) r.2 = 2 := by have := ux_M_k h hf; omega
theorem ux_mp3 (h : ux_M f n a bg sp tk nb bd bp r) (hf : bd.toInt = 0) (hk : tk.toInt = 2) : ux_bn r (ux_pt (ux_B f n) V E) = ux_bn r (ux_nm (ux_B f n) (9999 : Int32).toInt.toNat) := by
  have q := ux_M_1 h hf
  have k := ux_M_k2 h hf hk
  rw [ux_bnO q, ux_bnO q]
  unfold ux_pt
  rw [if_neg (by omega), if_neg (by omega)]; rfl
theorem ux_mp1 (h : ux_M f n a bg sp tk nb bd bp r) (hf : bd.toInt = 0) (h2 : tk.toInt ≠ 2) (h1 : tk.toInt ≠ 1) : ux_bn r (ux_pt (ux_B f n) V E) = ux_bn (ux_bn (ux_bn r (ux_mk (ux_B f n) (40 : Int32).toInt.toNat)) E) (ux_mk (ux_B f n) (41 : Int32).toInt.toNat) := by
  have q := ux_M_1 h hf
  have k := ux_M_k h hf
  have e0 : (40 : Int32).toInt.toNat = 40 := rfl
  have e1 : (41 : Int32).toInt.toNat = 41 := rfl
  rw [ux_bnO q, ux_bnO q, e0, e1]
  by_cases w : ux_tk (ux_B f n) r.2 = 40
  · have t : ux_mk (ux_B f n) 40 r.2 = (0, ux_te (ux_B f n) r.2) := by unfold ux_mk; rw [if_pos w]
    rw [t, ux_bn0]
    unfold ux_pt
    rw [if_pos w]
  · have t : ux_mk (ux_B f n) 40 r.2 = (1, ux_tb (ux_B f n) r.2) := by unfold ux_mk; rw [if_neg w]
    rw [t, ux_bnB (r := (1, ux_tb (ux_B f n) r.2)) (F := E) ux_b1, ux_bnB (r := (1, ux_tb (ux_B f n) r.2)) ux_b1]
    unfold ux_pt ux_nm
    rw [if_neg w, if_neg (by omega), if_neg (by omega)]
theorem ux_M_k1 (h : ux_M f n a bg sp tk nb bd bp r) (hf : bd.toInt = 0) (hk : tk.toInt = 1) : ux_tk (ux_B f n) r.2 = 1 := by have := ux_M_k h hf; omega
theorem ux_mp2 (h : ux_M f n a bg sp tk nb bd bp r) (hf : bd.toInt = 0) (hk : tk.toInt = 1) : ux_bn r (ux_pt (ux_B f n) V E) = ux_vl (ux_B f n) V r.2 := by
  have q := ux_M_1 h hf
  have k := ux_M_k1 h hf hk
  rw [ux_bnO q]
  unfold ux_pt
  rw [if_neg (by omega), if_pos k]
theorem ux_wh4 (hx : ux_wh B r 4 x) (h1 : x.toInt = -1) (q : r.1 = 0) : ux_vl B ux_VW r.2 = ux_w B (3 : Int32).toInt.toNat r := by
  unfold ux_w
  rw [ux_bnO q]
  refine ux_in ?_
  rintro ⟨i, hi, hv, hm⟩
  rcases hx with ⟨-, hx⟩ | hx
  · rcases hv with hv | hv | hv | hv
    · exact hx 0 (by decide) ⟨q, by rw [hv] at hm; exact hm⟩
    · exact hx 1 (by decide) ⟨q, by rw [hv] at hm; exact hm⟩
    · exact hx 2 (by decide) ⟨q, by rw [hv] at hm; exact hm⟩
    · exact hx 3 (by decide) ⟨q, by rw [hv] at hm; exact hm⟩
  · omega
theorem ux_wh5 (hx : ux_wh B r 5 x) (h1 : x.toInt = -1) (q : r.1 = 0) : ux_vl B ux_VS r.2 = ux_w B (3 : Int32).toInt.toNat r := by
  unfold ux_w
  rw [ux_bnO q]
  refine ux_in ?_
  rintro ⟨i, hi, hv, hm⟩
  rcases hx with ⟨-, hx⟩ | hx
  · rcases hv with hv | hv | hv | hv | hv
    · exact hx 0 (by decide) ⟨q, by rw [hv] at hm; exact hm⟩
    · exact hx 1 (by decide) ⟨q, by rw [hv] at hm; exact hm⟩
    · exact hx 2 (by decide) ⟨q, by rw [hv] at hm; exact hm⟩
    · exact hx 3 (by decide) ⟨q, by rw [hv] at hm; exact hm⟩
    · exact hx 4 (by decide) ⟨q, by rw [hv] at hm; exact hm⟩
  · omega
theorem ux_ws4 : ∀ j : Nat, j < 4 → (ux_ws 4).getD j 0 < 17 ∧ ux_VW ((ux_ws 4).getD j 0) := by
  intro j hj
  rcases (show j = 0 ∨ j = 1 ∨ j = 2 ∨ j = 3 by omega) with q | q | q | q <;> (subst q; exact ⟨by decide, by unfold ux_VW; decide⟩)
theorem ux_ws5 : ∀ j : Nat, j < 5 → (ux_ws 5).getD j 0 < 17 ∧ ux_VS ((ux_ws 5).getD j 0) := by
  intro j hj
  rcases (show j = 0 ∨ j = 1 ∨ j = 2 ∨ j = 3 ∨ j = 4 by omega) with q | q | q | q | q <;> (subst q; exact ⟨by decide, by unfold ux_VS; decide⟩)
theorem ux_wg4 (hx : ux_wh B r 4 x) (h1 : x.toInt ≠ -1) : ux_vl B ux_VW r.2 = (0, ux_te B r.2) := by
  rcases hx with hx | ⟨h2, h3, h4⟩
  · exact absurd hx.1 h1
  · have t := ux_ws4 x.toInt.toNat (by omega)
    exact ux_ip ⟨_, t.1, t.2, h4.2⟩
theorem ux_wg5 (hx : ux_wh B r 5 x) (h1 : x.toInt ≠ -1) : ux_vl B ux_VS r.2 = (0, ux_te B r.2) := by
  rcases hx with hx | ⟨h2, h3, h4⟩
  · exact absurd hx.1 h1
  · have t := ux_ws5 x.toInt.toNat (by omega)
    exact ux_ip ⟨_, t.1, t.2, h4.2⟩
theorem ux_lp_i {c : Nat × Nat → Prop} {H : Nat × Nat → Nat × Nat} (hc : ∀ r, c r → r.1 = 0) (h : ∀ p, F p = ux_lp c H (G p)) : ux_bn r F = ux_lp c H (ux_bn r G) := by
  by_cases q : r.1 = 0
  · rw [ux_bnO q, ux_bnO q]; exact h _
  · rw [ux_bnB q, ux_bnB q, ux_lp_f (fun w => q (hc _ w))]
theorem ux_pr_i : ux_bn r (ux_pr B V E) = ux_lp (ux_cp B 42 47) (fun r => ux_pt B V E (ux_te B r.2)) (ux_bn r (ux_pt B V E)) := ux_lp_i (fun _ h => h.1) (fun _ => rfl)
theorem ux_sm_i : ux_bn r (ux_sm B V E) = ux_lp (ux_cp B 43 45) (fun r => ux_pr B V E (ux_te B r.2)) (ux_bn r (ux_pr B V E)) := ux_lp_i (fun _ h => h.1) (fun _ => rfl)
theorem ux_an_i : ux_bn r (ux_an B V E) = ux_lp (ux_cw B 8) (fun r => ux_nt B V E 6 (ux_te B r.2)) (ux_bn r (ux_nt B V E 6)) := ux_lp_i (fun _ h => h.1) (fun _ => rfl)
theorem ux_or_i : ux_bn r (ux_or B V E) = ux_lp (ux_cw B 7) (fun r => ux_an B V E (ux_te B r.2)) (ux_bn r (ux_an B V E)) := ux_lp_i (fun _ h => h.1) (fun _ => rfl)
theorem ux_cp_1 {u v : Nat} (h : ux_ck B u r) : ux_cp B u v r := ⟨h.1, Or.inl h.2⟩
theorem ux_cp_2 {u v : Nat} (h : ux_ck B v r) : ux_cp B u v r := ⟨h.1, Or.inr h.2⟩
theorem ux_cp_n {u v : Nat} (h1 : ¬ ux_ck B u r) (h2 : ¬ ux_ck B v r) : ¬ ux_cp B u v r := fun h => h.2.elim (fun w => h1 ⟨h.1, w⟩) (fun w => h2 ⟨h.1, w⟩)
theorem ux_lp_s {c : Nat × Nat → Prop} {H : Nat × Nat → Nat × Nat} {X : Nat × Nat} (h : X = ux_lp c H r) (hc : c r) (hG : H r = G (ux_te B r.2)) : X = ux_lp c H (ux_bn (0, ux_te B r.2) G) := by
  rw [h, ux_lp_t hc, hG]; rfl
/-! not -/
theorem ux_nm0 (h : z.toInt = 0) : ux_bn r (ux_nt B V E 6) = ux_bn r (ux_nt B V E (6 - z.toNatClampNeg)) := by
  rw [ux_tcl2, h]; rfl
theorem ux_nm6 (h : ux_cw B 9 r) (h6 : z.toInt = 6) (hc : c.toInt = 7) : ux_bn r (ux_nt B V E (6 - z.toNatClampNeg)) = ux_bn (ux_w B (2 : Int32).toInt.toNat r) (ux_nt B V E (6 - c.toNatClampNeg)) := by
  have e1 : 6 - z.toNatClampNeg = 0 := by rw [ux_tcl2]; omega
  have e2 : ux_w B (2 : Int32).toInt.toNat r = (2, ux_tb B r.2) := ux_bnO h.1
  rw [e1, e2, ux_bnB (r := (2, ux_tb B r.2)) ux_b2, ux_bnO h.1]
  exact ux_ip h.2
theorem ux_nms (h : ux_cw B 9 r) (h0 : 0 ≤ z.toInt) (h6 : z.toInt < 6) (hc : c.toInt = z.toInt + 1) : ux_bn r (ux_nt B V E (6 - z.toNatClampNeg)) = ux_bn (0, ux_te B r.2) (ux_nt B V E (6 - c.toNatClampNeg)) := by
  have e1 : 6 - z.toNatClampNeg = (6 - c.toNatClampNeg) + 1 := by rw [ux_tcl2, ux_tcl2]; omega
  rw [e1, ux_bnO h.1, ux_bn0]
  exact ux_ip h.2
theorem ux_nmx (h : ¬ ux_cw B 9 r) : ux_bn r (ux_nt B V E k) = ux_bn (ux_bn r (ux_sm B V E)) (ux_t2 B V E) := by
  by_cases q : r.1 = 0
  · rw [ux_bnO q, ux_bnO q]
    have hm : ¬ ux_mw B r.2 9 := fun w => h ⟨q, w⟩
    cases k with
    | zero => exact ux_in hm
    | succ k => exact ux_in hm
  · rw [ux_bnB q, ux_bnB q, ux_bnB q]
theorem ux_t2n (h1 : ¬ ux_ck B 60 r) (h2 : ¬ ux_ck B 61 r) : ux_bn r (ux_t2 B V E) = r := by
  by_cases q : r.1 = 0
  · rw [ux_bnO q]
    unfold ux_t2
    rw [if_neg (fun w => w.elim (fun w => h1 ⟨q, w⟩) (fun w => h2 ⟨q, w⟩))]
    exact (ux_r_z2 q).symm
  · exact ux_bnB q
theorem ux_t2y (h : ux_ck B 60 r ∨ ux_ck B 61 r) : ux_bn r (ux_t2 B V E) = ux_bn (0, ux_te B r.2) (ux_sm B V E) := by
  have q : r.1 = 0 := h.elim (fun w => w.1) (fun w => w.1)
  rw [ux_bnO q, ux_bn0]
  unfold ux_t2
  rw [if_pos (h.elim (fun w => Or.inl w.2) (fun w => Or.inr w.2))]
/-! what may begin -/
theorem ux_ex_no {d : Nat} (h1 : ux_tk B p ≠ 1) (h2 : ux_tk B p ≠ 2) (h3 : ux_tk B p ≠ 40) : ux_ex B V d p = (1, ux_tb B p) := by
  cases d with
  | zero =>
    show (if ux_tk B p = 1 ∨ ux_tk B p = 2 ∨ ux_tk B p = 40 then (2, ux_tb B p) else (1, ux_tb B p)) = _
    rw [if_neg (by omega)]
  | succ d =>
    have hb : ((1, ux_tb B p) : Nat × Nat).1 ≠ 0 := ux_b1
    have e1 : ux_pt B V (ux_ex B V d) p = (1, ux_tb B p) := by unfold ux_pt ux_nm; rw [if_neg h3, if_neg h1, if_neg h2]
    have e2 : ux_pr B V (ux_ex B V d) p = (1, ux_tb B p) := by unfold ux_pr; rw [e1]; exact ux_lp_f (fun w => hb w.1)
    have e3 : ux_sm B V (ux_ex B V d) p = (1, ux_tb B p) := by unfold ux_sm; rw [e2]; exact ux_lp_f (fun w => hb w.1)
    have e4 : ux_ts B V (ux_ex B V d) p = (1, ux_tb B p) := by unfold ux_ts; rw [e3]; exact ux_bnB hb
    have e5 : ux_nt B V (ux_ex B V d) 6 p = (1, ux_tb B p) := (ux_in (fun w => h1 w.1)).trans e4
    have e6 : ux_an B V (ux_ex B V d) p = (1, ux_tb B p) := by unfold ux_an; rw [e5]; exact ux_lp_f (fun w => hb w.1)
    show ux_or B V (ux_ex B V d) p = _
    unfold ux_or
    rw [e6]
    exact ux_lp_f (fun w => hb w.1)
theorem ux_xi0 {d : Nat} (h : 1 ≤ d) : ux_bn r (ux_ex B V d) = ux_lp (ux_cw B 7) (fun r => ux_an B V (ux_ex B V (d - 1)) (ux_te B r.2)) (ux_bn r (ux_an B V (ux_ex B V (d - 1)))) := by
  cases d with
  | zero => omega
  | succ d => exact ux_or_i
theorem ux_xi1 {d : Nat} (h : ux_M f n a bg sp tk nb bd bp r) (hf : bd.toInt = 0) (h2 : tk.toInt ≠ 2) (h1 : tk.toInt ≠ 1) (h3 : ¬ ux_ck (ux_B f n) 40 r) : ux_bn r (ux_ex (ux_B f n) V d) = ux_lp (ux_cw (ux_B f n) 7) (fun r => ux_an (ux_B f n) V E (ux_te (ux_B f n) r.2)) (ux_bn (ux_w (ux_B f n) (1 : Int32).toInt.toNat r) (ux_an (ux_B f n) V E)) := by
  have q := ux_M_1 h hf
  have k := ux_M_k h hf
  have k3 : ux_tk (ux_B f n) r.2 ≠ 40 := fun w => h3 ⟨q, w⟩
  have e2 : ux_w (ux_B f n) (1 : Int32).toInt.toNat r = (1, ux_tb (ux_B f n) r.2) := ux_bnO q
  rw [e2, ux_bnB (r := (1, ux_tb (ux_B f n) r.2)) ux_b1, ux_bnO q, ux_ex_no (by omega) (by omega) k3]
  exact (ux_lp_f (fun w => ux_b1 w.1)).symm
theorem ux_xi2 {d : Nat} (hd : d = 0) (q : r.1 = 0) (hk : ux_tk B r.2 = 1 ∨ ux_tk B r.2 = 2 ∨ ux_tk B r.2 = 40) : ux_bn r (ux_ex B V d) = ux_lp (ux_cw B 7) (fun r => ux_an B V E (ux_te B r.2)) (ux_bn (ux_w B (2 : Int32).toInt.toNat r) (ux_an B V E)) := by
  subst hd
  have e2 : ux_w B (2 : Int32).toInt.toNat r = (2, ux_tb B r.2) := ux_bnO q
  rw [e2, ux_bnB (r := (2, ux_tb B r.2)) ux_b2, ux_bnO q]
  rw [ux_lp_f (fun w => ux_b2 w.1)]
  show (if ux_tk B r.2 = 1 ∨ ux_tk B r.2 = 2 ∨ ux_tk B r.2 = 40 then (2, ux_tb B r.2) else (1, ux_tb B r.2)) = _
  rw [if_pos hk]
theorem ux_may (h : ux_M f n a bg sp tk nb bd bp r) (hf : bd.toInt = 0) (hk : tk.toInt = 2 ∨ tk.toInt = 1) : ux_tk (ux_B f n) r.2 = 1 ∨ ux_tk (ux_B f n) r.2 = 2 ∨ ux_tk (ux_B f n) r.2 = 40 := by
  have := ux_M_k h hf; omega
end UXN
