/-! the signs that the reference lays -/
def ux_KMf (bd : Int32) (sg : Nat → Int32) (t : Int32) (l : List Int) : Prop := bd.toInt = 0 → ux_KM sg t l
def ux_KE (bd : Int32) (X Y : List Int) : Prop := bd.toInt = 0 → X = Y
theorem ux_lo_eqx {n j : Nat} {f g : Nat → Int32} (h : eqx j f g) (hj : n ≤ j) : ux_lo n f g := fun k hk => h k (by omega)
section UXKM
variable {f sg g : Nat → Int32} {n a bg sp tk nb bd bp b0 b1 t t' i x y z c : Int32} {r R : Nat × Nat} {p q k m N : Nat} {B : Nat → Nat} {V : Nat → Prop} {W : Nat → Int} {E : Nat → Nat × Nat} {EC : Nat → List Int → List Int} {l l' X Y : List Int} {s : Int}
theorem ux_nw_nm (h : (ux_bn r (ux_nw B N)).1 = 0) : (ux_bn r (ux_nm B N)).1 = 0 := by
  by_cases q : r.1 = 0
  · rw [ux_bnO q] at h ⊢
    unfold ux_nw at h
    unfold ux_nm
    by_cases w : ux_tk B r.2 = 2
    · rw [if_pos w] at h ⊢
      by_cases v : N < ux_tn B r.2
      · rw [if_pos v] at h; exact absurd (show (2 : Nat) = 0 from h) (by decide)
      · rw [if_neg v]
    · rw [if_neg w] at h; exact absurd (show (1 : Nat) = 0 from h) (by decide)
  · rw [ux_bnB q] at h; exact absurd h q
theorem ux_KM_m (h : ux_KMf b0 sg t l) (hb : b1.toInt = 0 → b0.toInt = 0) : ux_KMf b1 sg t l := fun w => h (hb w)
theorem ux_KM_0 (h : t.toInt = 0) : ux_KMf bd sg t [] := fun _ => ⟨by rw [h]; rfl, fun k hk => by omega⟩
theorem ux_KM_lay (h : ux_KMf bd sg t l) (eg : g = upd sg i.toNatClampNeg x) (ei : i.toInt = 700 + t.toInt) (et : t'.toInt = t.toInt + 1) (ht : 0 ≤ t.toInt) : ux_KMf bd g t' (l ++ [x.toInt]) := by
  intro hb
  obtain ⟨h1, h2⟩ := h hb
  have ec : i.toNatClampNeg = 700 + l.length := by show i.toInt.toNat = _; omega
  refine ⟨by rw [List.length_append]; show t'.toInt = ((l.length + 1 : Nat) : Int); omega, fun k hk => ?_⟩
  rw [eg, ec]
  by_cases q : k = l.length
  · rw [q, pk_us, gd_r]
  · rw [pk_un (by omega), gd_l (by omega)]
    exact h2 k (by omega)
/-! parts -/
theorem ux_KM_pt3 {m' : Int32} (h : ux_KMf b1 sg t (l ++ [x.toInt])) (hU : ux_M f n a bg sp tk nb bd bp r) (hf : bd.toInt = 0) (h2 : tk.toInt = 2) (hx : ux_nx (ux_B f n) b1 x m' r) : ux_KMf b1 sg t (uc_pt (ux_B f n) W EC r.2 l) := by
  intro hb
  have k := ux_M_k hU hf
  have e : uc_pt (ux_B f n) W EC r.2 l = l ++ [(ux_tn (ux_B f n) r.2 : Int)] := by
    unfold uc_pt; rw [if_neg (by omega), if_neg (by omega)]
  rw [e, ← (hx hb).1]; exact h hb
theorem ux_KM_pt2 (h : ux_KMf b1 sg t (l ++ [x.toInt])) (hU : ux_M f n a bg sp tk nb bd bp r) (hf : bd.toInt = 0) (h1 : tk.toInt = 1) (hx : x.toInt = W (ux_ci (ux_B f n) r.2)) : ux_KMf b1 sg t (uc_pt (ux_B f n) W EC r.2 l) := by
  intro hb
  have k := ux_M_k hU hf
  have e : uc_pt (ux_B f n) W EC r.2 l = l ++ [W (ux_ci (ux_B f n) r.2)] := by
    unfold uc_pt; rw [if_neg (by omega), if_pos (by omega)]
  rw [e, ← hx]; exact h hb
theorem ux_mk_e {c : Nat} (h : (ux_bn r (ux_mk B c)).1 = 0) : r.1 = 0 ∧ ux_tk B r.2 = c ∧ (ux_bn r (ux_mk B c)).2 = ux_te B r.2 := by
  by_cases q : r.1 = 0
  · rw [ux_bnO q] at h ⊢
    unfold ux_mk at h ⊢
    by_cases w : ux_tk B r.2 = c
    · rw [if_pos w]; exact ⟨q, w, rfl⟩
    · rw [if_neg w] at h; exact absurd (show (1 : Nat) = 0 from h) (by decide)
  · rw [ux_bnB q] at h; exact absurd h q
theorem ux_KM_pt1 (h : ux_KMf b1 sg t (EC (ux_bn r (ux_mk B (40 : Int32).toInt.toNat)).2 l)) (hb : b1.toInt = 0 → (ux_bn r (ux_mk B (40 : Int32).toInt.toNat)).1 = 0) : ux_KMf b1 sg t (uc_pt B W EC r.2 l) := by
  intro w
  obtain ⟨-, h2, h3⟩ := ux_mk_e (hb w)
  have q := h w
  rw [h3] at q
  have h2 : ux_tk B r.2 = 40 := h2
  unfold uc_pt; rw [if_pos h2]; exact q
theorem ux_wW4 (hx : ux_wh B r 4 x) (h1 : x.toInt ≠ -1) (hy : y.toInt = -1 - x.toInt) : y.toInt = ux_WW (ux_ci B r.2) := by
  rcases hx with hx | ⟨h2, h3, h4⟩
  · exact absurd hx.1 h1
  · have h3 : x.toInt < 4 := h3
    have e : ∀ j : Nat, j < 4 → ux_WW ((ux_ws 4).getD j 0) = -1 - (j : Int) := by decide
    rw [ux_ci_eq (ux_ws4 x.toInt.toNat (by omega)).1 h4.2, e x.toInt.toNat (by omega)]
    omega
theorem ux_wW5 (hx : ux_wh B r 5 x) (h1 : x.toInt ≠ -1) (hy : y.toInt = -1 - x.toInt) : y.toInt = ux_WS (ux_ci B r.2) := by
  rcases hx with hx | ⟨h2, h3, h4⟩
  · exact absurd hx.1 h1
  · have h3 : x.toInt < 5 := h3
    have e : ∀ j : Nat, j < 5 → ux_WS ((ux_ws 5).getD j 0) = -1 - (j : Int) := by decide
    rw [ux_ci_eq (ux_ws5 x.toInt.toNat (by omega)).1 h4.2, e x.toInt.toNat (by omega)]
    omega
/-! loops -/
theorem ux_KE_i {cc : Nat × Nat → Prop} {F G : Nat → Nat × Nat} {FC : Nat → List Int → List Int} {op : Nat → Int} (e : X = uc_lp B cc F FC op (G r.2, l)) (q : bd.toInt = 0 → r.1 = 0) : ux_KE bd X (uc_lp B cc F FC op (ux_bn r G, l)) := fun hb => by rw [ux_bnO (q hb)]; exact e
theorem ux_KE_s {cc : Nat × Nat → Prop} {F : Nat → Nat × Nat} {FC : Nat → List Int → List Int} {op : Nat → Int} (h : ux_KE b0 X (uc_lp B cc F FC op (r, l))) (hb : b1.toInt = 0 → b0.toInt = 0) (hc : cc r) (e : x.toInt = op r.2) : ux_KE b1 X (uc_lp B cc F FC op (ux_bn (0, ux_te B r.2) F, FC (ux_te B r.2) l ++ [x.toInt])) := fun w => uc_lp_t (h (hb w)) hc rfl (by rw [e])
theorem ux_KM_e {cc : Nat × Nat → Prop} {F : Nat → Nat × Nat} {FC : Nat → List Int → List Int} {op : Nat → Int} (hA : ux_KMf bd sg t l) (hB : ux_KE bd X (uc_lp B cc F FC op (r, l))) (hn : ¬ cc r) : ux_KMf bd sg t X := fun w => by rw [uc_lp_f (hB w) hn]; exact hA w
/-! not -/
theorem ux_KN_0 (h : z.toInt = 0) : ux_KE bd (uc_nt B V W E EC 6 r.2 l) (uc_nt B V W E EC (6 - z.toNatClampNeg) r.2 l ++ List.replicate z.toNatClampNeg (-28)) := fun _ => uc_nt_0 (p := r.2) h
theorem ux_KN_s (h : ux_KE b0 X (uc_nt B V W E EC (6 - z.toNatClampNeg) r.2 l ++ List.replicate z.toNatClampNeg (-28))) (hb : b1.toInt = 0 → b0.toInt = 0) (hc : ux_cw B 9 r) (h0 : 0 ≤ z.toInt) (h6 : z.toInt < 6) (hz : c.toInt = z.toInt + 1) : ux_KE b1 X (uc_nt B V W E EC (6 - c.toNatClampNeg) (0, ux_te B r.2).2 l ++ List.replicate c.toNatClampNeg (-28)) := fun w => (h (hb w)).trans (uc_nt_s hc.2 h0 h6 hz)
/-- behind the sum, without a test -/
theorem ux_KN_a (h : ux_KE b0 X (uc_nt B V W E EC k r.2 l ++ List.replicate m s)) (hb : b1.toInt = 0 → b0.toInt = 0) (hr : b1.toInt = 0 → r.1 = 0) (hw : ¬ ux_cw B 9 r) (h1 : ¬ ux_ck B 60 (ux_bn r (ux_sm B V E))) (h2 : ¬ ux_ck B 61 (ux_bn r (ux_sm B V E))) (hz : z.toNatClampNeg = 0) : ux_KE b1 X (uc_sm B V W E EC r.2 l ++ List.replicate (m - z.toNatClampNeg) s) := fun w => by
  have q := hr w
  rw [ux_bnO q] at h1 h2
  rw [h (hb w), uc_nt_b (fun u => hw ⟨q, u⟩), hz, Nat.sub_zero, uc_ts0 (fun u => u.2.elim (fun v => h1 ⟨u.1, v⟩) (fun v => h2 ⟨u.1, v⟩))]
/-- behind the second sum -/
theorem ux_KN_b (h : ux_KE b0 X (uc_nt B V W E EC k r.2 l ++ List.replicate m s)) (hb : b1.toInt = 0 → b0.toInt = 0) (hr : b1.toInt = 0 → r.1 = 0) (hw : ¬ ux_cw B 9 r) (h1 : ux_ck B 60 (ux_bn r (ux_sm B V E)) ∨ ux_ck B 61 (ux_bn r (ux_sm B V E))) (ho : x.toInt = uc_o3 B (ux_bn r (ux_sm B V E)).2) (hz : z.toNatClampNeg = 0) : ux_KE b1 X ((uc_sm B V W E EC (0, ux_te B (ux_bn r (ux_sm B V E)).2).2 (uc_sm B V W E EC r.2 l) ++ [x.toInt]) ++ List.replicate (m - z.toNatClampNeg) s) := fun w => by
  have q := hr w
  rw [ho]
  rw [ux_bnO q] at h1 ⊢
  have hc : ux_cp B 60 61 (ux_sm B V E r.2) := h1.elim (fun v => ⟨v.1, Or.inl v.2⟩) (fun v => ⟨v.1, Or.inr v.2⟩)
  rw [h (hb w), uc_nt_b (fun u => hw ⟨q, u⟩), hz, Nat.sub_zero, uc_ts1 hc]
theorem ux_KN_r (h : ux_KE b0 X (l ++ List.replicate (a.toNatClampNeg - z.toNatClampNeg) (-28))) (hb : b1.toInt = 0 → b0.toInt = 0) (hz : 0 ≤ z.toInt ∧ z.toInt < a.toInt) (hc : c.toInt = z.toInt + 1) : ux_KE b1 X ((l ++ [(-28 : Int32).toInt]) ++ List.replicate (a.toNatClampNeg - c.toNatClampNeg) (-28)) := fun w => uc_rep1 (h (hb w)) hz hc
theorem ux_KN_e (hA : ux_KMf bd sg t l) (hB : ux_KE bd X (l ++ List.replicate (a.toNatClampNeg - z.toNatClampNeg) s)) (hz : a.toNatClampNeg ≤ z.toNatClampNeg) : ux_KMf bd sg t X := fun w => by rw [uc_rep0 (hB w) hz]; exact hA w
theorem ux_KE_v (h : bd.toInt ≠ 0) : ux_KE bd X Y := fun w => absurd w h
end UXKM
