/-! the class's reading of a token, held against the text -/
def ux_T (f : Nat → Int32) (n a st kd : Int32) (wd : Option Nat) (nb : Int32) (p : Nat) : Prop :=
  st.toInt = (ux_tb (ux_B f n) p : Int) ∧ a.toInt = (ux_te (ux_B f n) p : Int) ∧ kd.toInt = (ux_tk (ux_B f n) p : Int) ∧ (∀ i : Nat, i < 17 → (wd = some i ↔ ux_mw (ux_B f n) p i)) ∧ (ux_tk (ux_B f n) p = 2 → nb.toInt = (ux_tn (ux_B f n) p : Int)) ∧ st.toInt ≤ a.toInt ∧ a.toInt ≤ n.toInt ∧ (kd.toInt = 0 ∨ st.toInt + 1 ≤ a.toInt)
def ux_S (f : Nat → Int32) (n a st kd : Int32) (wd : Option Nat) (nb fd pl : Int32) (r : Nat × Nat) : Prop :=
  (r.1 = 0 ∧ fd.toInt = 0 ∧ ux_T f n a st kd wd nb r.2) ∨ (r.1 ≠ 0 ∧ fd.toInt = (r.1 : Int) ∧ pl.toInt = (r.2 : Int))
/-- a row of one kind, as the class finds its end -/
def ux_r0 (f : Nat → Int32) (a b c : Int32) : Prop := ∀ j : Nat, a.toInt ≤ (j : Int) → (j : Int) < b.toInt → (ux_kb (f j) : Int) = c.toInt
def ux_er (f : Nat → Int32) (n a r c : Int32) : Prop := a.toInt ≤ r.toInt ∧ r.toInt ≤ n.toInt ∧ ux_r0 f a r c ∧ (r.toInt = n.toInt ∨ (ux_kb (f r.toNatClampNeg) : Int) ≠ c.toInt)
/-- the word found -/
def ux_fw (f : Nat → Int32) (n b e : Int32) (wd : Option Nat) : Prop := ∀ i : Nat, i < 17 → (wd = some i ↔ ux_mt (ux_B f n) b.toInt.toNat e.toInt.toNat i)
def ux_nf (f : Nat → Int32) (n b e i : Int32) : Prop := ∀ j : Nat, (j : Int) < i.toInt → ¬ ux_mt (ux_B f n) b.toInt.toNat e.toInt.toNat j
def ux_pm (f : Nat → Int32) (n b i s : Int32) : Prop := ∀ k : Nat, (k : Int) < s.toInt → ux_B f n (b.toInt.toNat + k) = ux_wc i.toNatClampNeg k
/-- the number found -/
def ux_tz (f : Nat → Int32) (n b e : Int32) : Nat := if 4 < e.toInt.toNat - b.toInt.toNat then 10000 else ux_dv (ux_B f n) b.toInt.toNat (e.toInt.toNat - b.toInt.toNat)
def ux_ds (f : Nat → Int32) (n b i s : Int32) : Prop := s.toInt = (ux_dv (ux_B f n) b.toInt.toNat (i.toInt.toNat - b.toInt.toNat) : Int)
section UXS
variable {f : Nat → Int32} {n a b e i s st kd nb fd pl c x y z : Int32} {wd : Option Nat} {r r' : Nat × Nat} {p k j : Nat} {ad : Nat → Nat} {V : Nat → Prop}
theorem ux_tcl (x : Int32) : x.toNatClampNeg = x.toInt.toNat := rfl
theorem ux_r0_nil (h : b.toInt ≤ a.toInt) : ux_r0 f a b c := fun j h1 h2 => by omega
theorem ux_r0_add (h : ux_r0 f a i c) (ex : x = f i.toNatClampNeg) (hy : y.toInt = (ux_kb x : Int)) (he : y.toInt = c.toInt) (hb : b.toInt = i.toInt + 1) (h0 : 0 ≤ i.toInt) : ux_r0 f a b c := fun j h1 h2 => by
  by_cases q : j = i.toNatClampNeg
  · rw [q, ← ex, ← hy, he]
  · exact h j h1 (by rw [ux_tcl] at q; omega)
theorem ux_er_end (h : ux_r0 f a i c) (h1 : a.toInt ≤ i.toInt) (h2 : i.toInt = n.toInt) (h3 : z.toInt = n.toInt) : ux_er f n a z c := ⟨by omega, by omega, fun j q1 q2 => h j q1 (by omega), Or.inl h3⟩
theorem ux_er_at (h : ux_r0 f a i c) (h1 : a.toInt ≤ i.toInt) (h2 : i.toInt ≤ n.toInt) (ex : x = f i.toNatClampNeg) (hy : y.toInt = (ux_kb x : Int)) (he : y.toInt ≠ c.toInt) : ux_er f n a i c := ⟨h1, h2, h, Or.inr (by rw [← ex, ← hy]; exact he)⟩
theorem ux_er_R {cn : Nat} (h : ux_er f n a b c) (h0 : 0 ≤ a.toInt) (hc : c.toInt = (cn : Int)) (hn : cn ≠ 0) : ux_R (ux_B f n) cn a.toInt.toNat b.toInt.toNat := by
  obtain ⟨h1, h2, h3, h4⟩ := h
  refine ⟨by omega, fun j q1 q2 => ?_, ?_⟩
  · have q := h3 j (by omega) (by omega)
    rw [ux_kB (by omega)]
    omega
  · by_cases q : b.toInt = n.toInt
    · rw [ux_kE (by omega)]; exact fun w => hn w.symm
    · rw [ux_kB (by omega)]
      rcases h4 with h4 | h4
      · exact absurd h4 q
      · rw [ux_tcl] at h4
        intro w
        exact h4 (by rw [w, hc])
theorem ux_S_mk (h : ux_T f n a st kd wd nb p) (hf : fd.toInt = 0) : ux_S f n a st kd wd nb fd pl (0, p) := Or.inl ⟨rfl, hf, h⟩
theorem ux_S_eq (h : ux_S f n a st kd wd nb fd pl r) (q : r' = r) : ux_S f n a st kd wd nb fd pl r' := by rw [q]; exact h
theorem ux_S_1 (h : ux_S f n a st kd wd nb fd pl r) (hf : fd.toInt = 0) : r.1 = 0 := by
  rcases h with h | h
  · exact h.1
  · have := h.1; have := h.2.1; omega
theorem ux_S_T (h : ux_S f n a st kd wd nb fd pl r) (hf : fd.toInt = 0) : ux_T f n a st kd wd nb r.2 := by
  rcases h with h | h
  · exact h.2.2
  · have := h.1; have := h.2.1; omega
theorem ux_S_b (h : ux_S f n a st kd wd nb fd pl r) (hf : fd.toInt ≠ 0) : r.1 ≠ 0 := by
  rcases h with h | h
  · exact absurd h.2.1 hf
  · exact h.1
theorem ux_S_f (h : ux_S f n a st kd wd nb fd pl r) : fd.toInt = (r.1 : Int) := by
  rcases h with h | h
  · rw [h.1]; exact h.2.1
  · exact h.2.1
theorem ux_S_z (h : ux_S f n a st kd wd nb fd pl r) (hf : fd.toInt = 0) : ux_S f n a st kd wd nb fd pl (0, r.2) := Or.inl ⟨rfl, hf, ux_S_T (r := r) h hf⟩
theorem ux_r_z (h : r.1 = 0) : r = (0, r.2) := by
  cases r with
  | mk u v => cases h; rfl
theorem ux_S_k (h : ux_S f n a st kd wd nb fd pl r) (hf : fd.toInt = 0) : kd.toInt = (ux_tk (ux_B f n) r.2 : Int) := (ux_S_T h hf).2.2.1
theorem ux_S_lin (h : ux_S f n a st kd wd nb fd pl r) (hf : fd.toInt = 0) : st.toInt ≤ a.toInt ∧ a.toInt ≤ n.toInt ∧ (kd.toInt = 0 ∨ st.toInt + 1 ≤ a.toInt) := (ux_S_T h hf).2.2.2.2.2
theorem ux_S_w (h : ux_S f n a st kd wd nb fd pl r) (hf : fd.toInt = 0) (inj : ∀ i j : Nat, i < 17 → j < 17 → ad i = ad j → i = j) (hj : j < 17) (hw : ew wd) (q : wd.map ad = some (ad j)) : ux_mw (ux_B f n) r.2 j := by
  cases wd with
  | none => cases q
  | some k =>
    have e : ad k = ad j := Option.some.inj q
    have e2 := inj k j (hw k rfl) hj e
    exact ((ux_S_T h hf).2.2.2.1 j hj).mp (by rw [e2])
theorem ux_S_wn (h : ux_S f n a st kd wd nb fd pl r) (hf : fd.toInt = 0) (hj : j < 17) (q : ¬ wd.map ad = some (ad j)) : ¬ ux_mw (ux_B f n) r.2 j := by
  intro m
  have e := ((ux_S_T h hf).2.2.2.1 j hj).mpr m
  exact q (by rw [e]; rfl)
theorem ux_S_a (h : ux_S f n a st kd wd nb fd pl r) (hf : fd.toInt = 0) : a.toInt.toNat = ux_te (ux_B f n) r.2 := by
  have := (ux_S_T h hf).2.1; omega
/-! a step on -/
theorem ux_ad_b (h0 : 0 ≤ a.toInt) (he : ux_er f n a b (3 : Int32)) : ux_tb (ux_B f n) a.toInt.toNat = b.toInt.toNat := ux_run_eq (ux_er_R he h0 rfl (by decide))
theorem ux_ad_end (h0 : 0 ≤ a.toInt) (he : ux_er f n a b (3 : Int32)) (hb : n.toInt ≤ b.toInt) (hf : fd.toInt = 0) : ux_S f n b b (0 : Int32) none nb fd pl (0, a.toInt.toNat) := by
  have e1 := ux_ad_b h0 he
  have h1 := he.1
  have h2 := he.2.1
  have e2 : ux_tk (ux_B f n) a.toInt.toNat = 0 := by unfold ux_tk; rw [e1, ux_kE (by omega)]
  have e3 : ux_te (ux_B f n) a.toInt.toNat = b.toInt.toNat := by
    unfold ux_te
    rw [if_neg (by omega), if_pos e2, e1]
  refine ux_S_mk (p := a.toInt.toNat) ⟨?_, ?_, ?_, fun i hi => ⟨fun q => (by cases q), fun q => (by have := q.1; omega)⟩, fun q => by omega, by omega, by omega, Or.inl rfl⟩ hf
  · show b.toInt = _; rw [e1]; omega
  · show b.toInt = _; rw [e3]; omega
  · show (0 : Int32).toInt = _; rw [e2]; rfl
theorem ux_ad_k (h0 : 0 ≤ a.toInt) (he : ux_er f n a b (3 : Int32)) (hb : b.toInt < n.toInt) (ex : x = f b.toNatClampNeg) (hk : kd.toInt = (ux_kb x : Int)) : kd.toInt = (ux_tk (ux_B f n) a.toInt.toNat : Int) := by
  have e1 := ux_ad_b h0 he
  have h1 := he.1
  unfold ux_tk
  rw [e1, ux_kB (by omega), hk, ex]
  rfl
theorem ux_ad_sign (h0 : 0 ≤ a.toInt) (he : ux_er f n a b (3 : Int32)) (hb : b.toInt < n.toInt) (ex : x = f b.toNatClampNeg) (hk : kd.toInt = (ux_kb x : Int)) (h1 : kd.toInt ≠ 1) (h2 : kd.toInt ≠ 2) (h3 : e.toInt = b.toInt + 1) (hf : fd.toInt = 0) : ux_S f n e b kd none nb fd pl (0, a.toInt.toNat) := by
  have e1 := ux_ad_b h0 he
  have e2 := ux_ad_k h0 he hb ex hk
  have q1 := he.1
  have q0 : ux_tk (ux_B f n) a.toInt.toNat ≠ 0 := by
    have := ux_kb0 x
    omega
  have e3 : ux_te (ux_B f n) a.toInt.toNat = b.toInt.toNat + 1 := by
    unfold ux_te
    rw [if_neg (by omega), if_neg q0, e1]
  refine ux_S_mk (p := a.toInt.toNat) ⟨?_, ?_, e2, fun i hi => ⟨fun q => (by cases q), fun q => (by have := q.1; omega)⟩, fun q => by omega, by omega, by omega, Or.inr (by omega)⟩ hf
  · show b.toInt = _; rw [e1]; omega
  · show e.toInt = _; rw [e3]; omega
theorem ux_ad_te {cn : Nat} (h0 : 0 ≤ a.toInt) (he : ux_er f n a b (3 : Int32)) (e2 : ux_tk (ux_B f n) a.toInt.toNat = cn) (hc : cn = 1 ∨ cn = 2) (hk : c.toInt = (cn : Int)) (he2 : ux_er f n b e c) : ux_te (ux_B f n) a.toInt.toNat = e.toInt.toNat := by
  have e1 := ux_ad_b h0 he
  have q1 := he.1
  unfold ux_te
  rw [e2, if_pos hc, e1]
  exact ux_run_eq (ux_er_R he2 (by omega) hk (by omega))
theorem ux_ad_lt {cn : Nat} (he2 : ux_er f n b e c) (hk : c.toInt = (cn : Int)) (h1 : (ux_kb (f b.toNatClampNeg) : Int) = c.toInt) (hb : b.toInt < n.toInt) : b.toInt + 1 ≤ e.toInt := by
  have q := he2.1
  rcases he2.2.2.2 with w | w
  · omega
  · by_cases t : b.toInt = e.toInt
    · have : b.toNatClampNeg = e.toNatClampNeg := by rw [ux_tcl, ux_tcl, t]
      rw [this] at h1
      exact absurd h1 w
    · omega
theorem ux_ad_word (h0 : 0 ≤ a.toInt) (he : ux_er f n a b (3 : Int32)) (hb : b.toInt < n.toInt) (ex : x = f b.toNatClampNeg) (hk : kd.toInt = (ux_kb x : Int)) (h1 : kd.toInt = 1) (he2 : ux_er f n b e kd) (hw : ux_fw f n b e wd) (hf : fd.toInt = 0) : ux_S f n e b kd wd nb fd pl (0, a.toInt.toNat) := by
  have e1 := ux_ad_b h0 he
  have e2 := ux_ad_k h0 he hb ex hk
  have q1 := he.1
  have q2 : ux_tk (ux_B f n) a.toInt.toNat = 1 := by omega
  have e3 := ux_ad_te h0 he q2 (Or.inl rfl) h1 he2
  have q3 := ux_ad_lt he2 h1 (by rw [← ex, ← hk]) hb
  refine ux_S_mk (p := a.toInt.toNat) ⟨?_, ?_, e2, fun i hi => ?_, fun q => by omega, by omega, he2.2.1, Or.inr q3⟩ hf
  · show b.toInt = _; rw [e1]; omega
  · show e.toInt = _; rw [e3]; omega
  · rw [hw i hi]
    show _ ↔ ux_tk (ux_B f n) a.toInt.toNat = 1 ∧ ux_mt (ux_B f n) (ux_tb (ux_B f n) a.toInt.toNat) (ux_te (ux_B f n) a.toInt.toNat) i
    rw [e1, e3]
    exact ⟨fun q => ⟨q2, q⟩, fun q => q.2⟩
theorem ux_ad_num (h0 : 0 ≤ a.toInt) (he : ux_er f n a b (3 : Int32)) (hb : b.toInt < n.toInt) (ex : x = f b.toNatClampNeg) (hk : kd.toInt = (ux_kb x : Int)) (h1 : kd.toInt = 2) (he2 : ux_er f n b e kd) (hn : nb.toInt = (ux_tz f n b e : Int)) (hf : fd.toInt = 0) : ux_S f n e b kd none nb fd pl (0, a.toInt.toNat) := by
  have e1 := ux_ad_b h0 he
  have e2 := ux_ad_k h0 he hb ex hk
  have q1 := he.1
  have q2 : ux_tk (ux_B f n) a.toInt.toNat = 2 := by omega
  have e3 := ux_ad_te h0 he q2 (Or.inr rfl) h1 he2
  have q3 := ux_ad_lt he2 h1 (by rw [← ex, ← hk]) hb
  refine ux_S_mk (p := a.toInt.toNat) ⟨?_, ?_, e2, fun i hi => ⟨fun q => (by cases q), fun q => (by have := q.1; omega)⟩, fun q => ?_, by omega, he2.2.1, Or.inr q3⟩ hf
  · show b.toInt = _; rw [e1]; omega
  · show e.toInt = _; rw [e3]; omega
  · show nb.toInt = (ux_tn (ux_B f n) a.toInt.toNat : Int)
    rw [hn]
    unfold ux_tn ux_tz
    rw [e1, e3]
/-! the word -/
theorem ux_nf_0 (h : i.toInt = 0) : ux_nf f n b e i := fun j q => by omega
theorem ux_pm_0 (h : s.toInt = 0) : ux_pm f n b i s := fun k q => by omega
theorem ux_B_at (h : (k : Int) < n.toInt) (ex : x = f k) (hx : 0 < x.toInt) (hx2 : x.toInt < 128) : (ux_B f n k : Int) = x.toInt := by
  unfold ux_B
  rw [if_pos h, ← ex, if_pos ⟨hx, hx2⟩]
  omega
theorem ux_B_of {u : Nat} (h : (k : Int) < n.toInt) (ex : x = f k) (hu : ux_B f n k = u) (h1 : 2 ≤ u) : x.toInt = (u : Int) := by
  unfold ux_B at hu
  rw [if_pos h, ← ex] at hu
  split at hu <;> omega
theorem ux_pm_add (h : ux_pm f n b i s) (hi : i.toNatClampNeg < 17) (hs : 0 ≤ s.toInt) (hl : s.toInt < (ux_wl i.toNatClampNeg : Int)) (hb : 0 ≤ b.toInt) (hz : z.toInt = b.toInt + s.toInt) (hn : z.toInt < n.toInt) (ex : x = f z.toNatClampNeg) (ey : y = ux_wf i.toNatClampNeg s.toNatClampNeg &&& 255) (hxy : y = x) (hc : c.toInt = s.toInt + 1) : ux_pm f n b i c := fun k q => by
  by_cases w : (k : Int) < s.toInt
  · exact h k w
  · have ek : k = s.toNatClampNeg := by rw [ux_tcl]; omega
    have t := ux_wc_b i.toNatClampNeg hi s.toNatClampNeg (by have := (ux_wl_b _ hi).2; rw [ux_tcl]; omega) (by rw [ux_tcl s]; omega)
    rw [← ey, hxy] at t
    have ez : b.toInt.toNat + k = z.toNatClampNeg := by rw [ux_tcl]; omega
    have g := ux_B_at (f := f) (n := n) (k := z.toNatClampNeg) (by rw [ux_tcl]; omega) ex (by omega) (by omega)
    rw [ez, ek]
    omega
theorem ux_mt_no1 {j : Nat} (h : ¬ (e.toInt = b.toInt + (ux_wl j : Int))) (h0 : 0 ≤ b.toInt) (h1 : 0 ≤ e.toInt) : ¬ ux_mt (ux_B f n) b.toInt.toNat e.toInt.toNat j := fun q => by
  have := q.1; omega
theorem ux_mt_no2 (hi : i.toNatClampNeg < 17) (hs : 0 ≤ s.toInt) (hl : s.toInt < (ux_wl i.toNatClampNeg : Int)) (hb : 0 ≤ b.toInt) (hz : z.toInt = b.toInt + s.toInt) (hn : z.toInt < n.toInt) (ex : x = f z.toNatClampNeg) (ey : y = ux_wf i.toNatClampNeg s.toNatClampNeg &&& 255) (hxy : ¬ y = x) : ¬ ux_mt (ux_B f n) b.toInt.toNat e.toInt.toNat i.toNatClampNeg := fun q => by
  have t := ux_wc_b i.toNatClampNeg hi s.toNatClampNeg (by have := (ux_wl_b _ hi).2; rw [ux_tcl]; omega) (by rw [ux_tcl s]; omega)
  have g := q.2 s.toNatClampNeg (by rw [ux_tcl s]; omega)
  have ez : b.toInt.toNat + s.toNatClampNeg = z.toNatClampNeg := by rw [ux_tcl, ux_tcl]; omega
  rw [ez] at g
  have g2 := ux_B_of (x := x) (by rw [ux_tcl]; omega) ex g (by omega)
  refine hxy (Int32.toInt_inj.mp ?_)
  rw [ey, t.2.2, g2]
theorem ux_nf_add (h : ux_nf f n b e i) (h0 : 0 ≤ i.toInt) (h1 : ¬ ux_mt (ux_B f n) b.toInt.toNat e.toInt.toNat i.toNatClampNeg) (hc : c.toInt = i.toInt + 1) : ux_nf f n b e c := fun j q => by
  by_cases w : (j : Int) < i.toInt
  · exact h j w
  · have ej : j = i.toNatClampNeg := by rw [ux_tcl]; omega
    rw [ej]; exact h1
theorem ux_fw_none (h : ux_nf f n b e i) (hi : 17 ≤ i.toInt) : ux_fw f n b e none := fun j hj => ⟨fun q => (by cases q), fun q => absurd q (h j (by omega))⟩
theorem ux_fw_some (h : ux_pm f n b i s) (hi : i.toNatClampNeg < 17) (hs : s.toInt = (ux_wl i.toNatClampNeg : Int)) (hb : 0 ≤ b.toInt) (he : e.toInt = b.toInt + s.toInt) : ux_fw f n b e (some i.toNatClampNeg) := by
  have m : ux_mt (ux_B f n) b.toInt.toNat e.toInt.toNat i.toNatClampNeg := ⟨by omega, fun k q => h k (by omega)⟩
  exact fun j hj => ⟨fun q => (by cases q; exact m), fun q => by rw [ux_mt_inj hi hj m q]⟩
/-! the number -/
theorem ux_ds_0 (h1 : i.toInt = b.toInt) (h2 : s.toInt = 0) : ux_ds f n b i s := by
  unfold ux_ds
  rw [h1, Nat.sub_self, h2]; rfl
theorem ux_ds_add (h : ux_ds f n b i s) (hb : 0 ≤ b.toInt) (hi : b.toInt ≤ i.toInt) (hn : i.toInt < n.toInt) (ex : x = f i.toNatClampNeg) (hx : iv x 48 57) (hz : z.toInt = 10 * s.toInt + x.toInt - 48) (hc : c.toInt = i.toInt + 1) : ux_ds f n b c z := by
  unfold ux_ds at h ⊢
  have e1 : c.toInt.toNat - b.toInt.toNat = (i.toInt.toNat - b.toInt.toNat) + 1 := by omega
  rw [e1]
  show z.toInt = ((10 * ux_dv (ux_B f n) b.toInt.toNat (i.toInt.toNat - b.toInt.toNat) + (ux_B f n (b.toInt.toNat + (i.toInt.toNat - b.toInt.toNat)) - 48) : Nat) : Int)
  have e2 : b.toInt.toNat + (i.toInt.toNat - b.toInt.toNat) = i.toNatClampNeg := by rw [ux_tcl]; omega
  have g := ux_B_at (f := f) (n := n) (k := i.toNatClampNeg) (by rw [ux_tcl]; omega) ex (by have := hx.1; omega) (by have := hx.2; omega)
  rw [e2]
  have := hx.1
  omega
theorem ux_tz_big (h0 : 0 ≤ b.toInt) (h : 4 < e.toInt - b.toInt) (hz : z.toInt = 10000) : z.toInt = (ux_tz f n b e : Int) := by
  unfold ux_tz
  rw [if_pos (by omega), hz]; rfl
theorem ux_tz_of (h : ux_ds f n b i s) (h1 : i.toInt = e.toInt) (h2 : e.toInt - b.toInt ≤ 4) (h0 : 0 ≤ b.toInt) : s.toInt = (ux_tz f n b e : Int) := by
  unfold ux_tz
  unfold ux_ds at h
  rw [if_neg (by omega), h, h1]
theorem ux_r0_dg (h : ux_er f n a b (2 : Int32)) : dg f a.toNatClampNeg b.toNatClampNeg := fun j q1 q2 => by
  have t := h.2.2.1 j (by rw [ux_tcl] at q1; omega) (by rw [ux_tcl] at q2; omega)
  have t2 : (2 : Int32).toInt = 2 := rfl
  rw [t2] at t
  unfold ux_kb ux_k at t
  unfold iv
  by_cases w : 0 < (f j).toInt ∧ (f j).toInt < 128
  · rw [if_pos w] at t
    generalize ek : (f j).toInt.toNat = k at t
    have : ((k : Nat) : Int) = (f j).toInt := by omega
    (repeat' split at t) <;> omega
  · rw [if_neg w] at t
    exact absurd t (by decide)
/-! faults, signs, numbers -/
theorem ux_rf1 (h : ux_S f n a st kd wd nb fd pl r) (hf : fd.toInt ≠ 0) : ux_S f n a st kd wd nb fd pl (ux_w (ux_B f n) c.toInt.toNat r) := ux_S_eq h (ux_bnB (ux_S_b h hf))
theorem ux_rf2 (h : ux_S f n a st kd wd nb fd pl r) (hf : fd.toInt = 0) (hc : 1 ≤ c.toInt) : ux_S f n a st kd wd nb c st (ux_w (ux_B f n) c.toInt.toNat r) := by
  have e : ux_w (ux_B f n) c.toInt.toNat r = (c.toInt.toNat, ux_tb (ux_B f n) r.2) := ux_bnO (ux_S_1 h hf)
  rw [e]
  exact Or.inr ⟨by show c.toInt.toNat ≠ 0; omega, by show c.toInt = (c.toInt.toNat : Int); omega, (ux_S_T h hf).1⟩
theorem ux_split {P : Prop} (h : ux_S f n a st kd wd nb fd pl r) (h0 : fd.toInt = 0 → P) (h1 : r.1 ≠ 0 → P) : P := by
  by_cases q : fd.toInt = 0
  · exact h0 q
  · exact h1 (ux_S_b h q)
theorem ux_sk1 (h : ux_S f n a st kd wd nb fd pl r) (hk : kd.toInt ≠ c.toInt) (hc : 0 ≤ c.toInt) : ux_bn r (ux_mk (ux_B f n) c.toInt.toNat) = ux_w (ux_B f n) (1 : Int32).toInt.toNat r := by
  refine ux_split h (fun hf => ?_) (fun hb => ?_)
  · have q := ux_S_1 h hf
    have k := ux_S_k h hf
    unfold ux_w
    rw [ux_bnO q, ux_bnO q]
    unfold ux_mk
    rw [if_neg (by omega)]; rfl
  · unfold ux_w; rw [ux_bnB hb, ux_bnB hb]
theorem ux_sk3 (h : ux_S f n a st kd wd nb fd pl r) (hf : fd.toInt = 0) (hk : kd.toInt = c.toInt) : ux_bn r (ux_mk (ux_B f n) c.toInt.toNat) = (0, a.toInt.toNat) := by
  have k := ux_S_k h hf
  rw [ux_bnO (ux_S_1 h hf)]
  unfold ux_mk
  rw [if_pos (by omega), ux_S_a h hf]
theorem ux_tn1 (h : ux_S f n a st kd wd nb fd pl r) (hk : kd.toInt ≠ 2) : ux_bn r (ux_nm (ux_B f n) c.toInt.toNat) = ux_w (ux_B f n) (1 : Int32).toInt.toNat r := by
  refine ux_split h (fun hf => ?_) (fun hb => ?_)
  · have q := ux_S_1 h hf
    have k := ux_S_k h hf
    unfold ux_w
    rw [ux_bnO q, ux_bnO q]
    unfold ux_nm
    rw [if_neg (by omega)]; rfl
  · unfold ux_w; rw [ux_bnB hb, ux_bnB hb]
theorem ux_S_n (h : ux_S f n a st kd wd nb fd pl r) (hf : fd.toInt = 0) (hk : kd.toInt = 2) : ux_tk (ux_B f n) r.2 = 2 ∧ nb.toInt = (ux_tn (ux_B f n) r.2 : Int) := by
  have k := ux_S_k h hf
  have k2 : ux_tk (ux_B f n) r.2 = 2 := by omega
  exact ⟨k2, (ux_S_T h hf).2.2.2.2.1 k2⟩
theorem ux_tn2 (h : ux_S f n a st kd wd nb fd pl r) (hk : kd.toInt = 2) (hn : c.toInt < nb.toInt) (hc : 0 ≤ c.toInt) : ux_bn r (ux_nm (ux_B f n) c.toInt.toNat) = ux_w (ux_B f n) (2 : Int32).toInt.toNat r := by
  refine ux_split h (fun hf => ?_) (fun hb => ?_)
  · have q := ux_S_1 h hf
    obtain ⟨k, k2⟩ := ux_S_n h hf hk
    unfold ux_w
    rw [ux_bnO q, ux_bnO q]
    unfold ux_nm
    rw [if_pos k, if_pos (by omega)]; rfl
  · unfold ux_w; rw [ux_bnB hb, ux_bnB hb]
theorem ux_tn3 (h : ux_S f n a st kd wd nb fd pl r) (hf : fd.toInt = 0) (hk : kd.toInt = 2) (hn : nb.toInt ≤ c.toInt) (hc : 0 ≤ c.toInt) : ux_bn r (ux_nm (ux_B f n) c.toInt.toNat) = (0, a.toInt.toNat) := by
  obtain ⟨k, k2⟩ := ux_S_n h hf hk
  rw [ux_bnO (ux_S_1 h hf)]
  unfold ux_nm
  rw [if_pos k, if_neg (by omega), ux_S_a h hf]
/-! values -/
def ux_V (a b i : Nat) : Prop := (a = b ∧ wdW.getD i 0 ≠ 0) ∨ (a ≠ b ∧ wdS.getD i 0 ≠ 0)
theorem ux_V_w {u v : Nat} (q : some u = some v) (e : x = wdW.getD j 0) : ux_V u v j ↔ ¬ x = 0 := by
  have q := Option.some.inj q
  subst q
  rw [e]
  exact ⟨fun h => h.elim (fun h => h.2) (fun h => absurd rfl h.1), fun h => Or.inl ⟨rfl, h⟩⟩
theorem ux_V_s {u v : Nat} (q : ¬ some u = some v) (e : x = wdS.getD j 0) : ux_V u v j ↔ ¬ x = 0 := by
  have q : u ≠ v := fun w => q (by rw [w])
  rw [e]
  exact ⟨fun h => h.elim (fun h => absurd h.1 q) (fun h => h.2), fun h => Or.inr ⟨q, h⟩⟩
theorem ux_vl0 (h : ux_S f n a st kd wd nb fd pl r) (hf : fd.toInt = 0) (hn : wd = none) : ux_vl (ux_B f n) V r.2 = ux_w (ux_B f n) (3 : Int32).toInt.toNat r := by
  unfold ux_w
  rw [ux_bnO (ux_S_1 h hf)]
  refine ux_in ?_
  rintro ⟨i, hi, -, hm⟩
  have e := ((ux_S_T h hf).2.2.2.1 i hi).mpr hm
  rw [hn] at e
  cases e
theorem ux_vl1 (h : ux_S f n a st kd wd nb fd pl r) (hf : fd.toInt = 0) (hj : j < 17) (hn : wd = some j) (hv : ¬ V j) : ux_vl (ux_B f n) V r.2 = ux_w (ux_B f n) (3 : Int32).toInt.toNat r := by
  unfold ux_w
  rw [ux_bnO (ux_S_1 h hf)]
  refine ux_in ?_
  rintro ⟨i, hi, hvi, hm⟩
  have e := ux_mw_inj hi hj hm (((ux_S_T h hf).2.2.2.1 j hj).mp hn)
  rw [e] at hvi
  exact hv hvi
theorem ux_vl2 (h : ux_S f n a st kd wd nb fd pl r) (hf : fd.toInt = 0) (hj : j < 17) (hn : wd = some j) (hv : V j) : ux_vl (ux_B f n) V r.2 = (0, a.toInt.toNat) := by
  rw [ux_S_a h hf]
  exact ux_ip ⟨j, hj, hv, ((ux_S_T h hf).2.2.2.1 j hj).mp hn⟩
end UXS
section UXX
variable {f : Nat → Int32} {n a b e i s st kd nb fd pl c x y z : Int32} {wd : Option Nat} {r r' : Nat × Nat} {p k j : Nat} {ad : Nat → Nat} {V : Nat → Prop} {E : Nat → Nat × Nat} {B : Nat → Nat}
theorem ux_S_L (h : ux_S f n a st kd wd nb fd pl r) : fd.toInt ≠ 0 ∨ (st.toInt ≤ a.toInt ∧ a.toInt ≤ n.toInt ∧ (kd.toInt = 0 ∨ st.toInt + 1 ≤ a.toInt)) := by
  by_cases q : fd.toInt = 0
  · exact Or.inr (ux_S_lin h q)
  · exact Or.inl q
theorem ux_pt1 (h : ux_S f n a st kd wd nb fd pl (0, p)) (hf : fd.toInt = 0) (hk : kd.toInt = 40) : ux_pt (ux_B f n) V E p = ux_bn (E (ux_te (ux_B f n) p)) (ux_mk (ux_B f n) (41 : Int32).toInt.toNat) := by
  have k : kd.toInt = (ux_tk (ux_B f n) p : Int) := ux_S_k h hf
  unfold ux_pt
  rw [if_pos (by omega)]
  rfl
theorem ux_pt2 (h : ux_S f n a st kd wd nb fd pl (0, p)) (hf : fd.toInt = 0) (hk : kd.toInt = 1) : ux_pt (ux_B f n) V E p = ux_vl (ux_B f n) V p := by
  have k : kd.toInt = (ux_tk (ux_B f n) p : Int) := ux_S_k h hf
  unfold ux_pt
  rw [if_neg (by omega), if_pos (by omega)]
theorem ux_pt3 (h : ux_S f n a st kd wd nb fd pl (0, p)) (hf : fd.toInt = 0) (hk : kd.toInt ≠ 40) (hk1 : kd.toInt ≠ 1) : ux_pt (ux_B f n) V E p = ux_bn (0, p) (ux_nm (ux_B f n) (9999 : Int32).toInt.toNat) := by
  have k : kd.toInt = (ux_tk (ux_B f n) p : Int) := ux_S_k h hf
  unfold ux_pt
  rw [if_neg (by omega), if_neg (by omega)]
  rfl
theorem ux_cp_of {u v : Nat} (h : ux_S f n a st kd wd nb fd pl r) (hf : fd.toInt = 0) (hk : kd.toInt = (u : Int) ∨ kd.toInt = (v : Int)) : ux_cp (ux_B f n) u v r := by
  have k := ux_S_k h hf
  exact ⟨ux_S_1 h hf, by omega⟩
theorem ux_cp_no {u v : Nat} (h : ux_S f n a st kd wd nb fd pl r) (hq : fd.toInt = 0 → kd.toInt ≠ (u : Int) ∧ kd.toInt ≠ (v : Int)) : ¬ ux_cp (ux_B f n) u v r := by
  rintro ⟨h1, h2⟩
  have hf : fd.toInt = 0 := by have := ux_S_f h; omega
  have k := ux_S_k h hf
  have := hq hf
  omega
theorem ux_cw_of (h : ux_S f n a st kd wd nb fd pl r) (hf : fd.toInt = 0) (inj : ∀ i j : Nat, i < 17 → j < 17 → ad i = ad j → i = j) (hj : j < 17) (hw : ew wd) (q : wd.map ad = some (ad j)) : ux_cw (ux_B f n) j r := ⟨ux_S_1 h hf, ux_S_w h hf inj hj hw q⟩
theorem ux_cw_no1 (h : ux_S f n a st kd wd nb fd pl r) (hq : fd.toInt = 0 → kd.toInt = 0) : ¬ ux_cw (ux_B f n) j r := by
  rintro ⟨h1, h2⟩
  have hf : fd.toInt = 0 := by have := ux_S_f h; omega
  have k := ux_S_k h hf
  have := hq hf
  have := h2.1
  omega
theorem ux_cw_no2 (h : ux_S f n a st kd wd nb fd pl r) (hj : j < 17) (q : ¬ wd.map ad = some (ad j)) : ¬ ux_cw (ux_B f n) j r := by
  rintro ⟨h1, h2⟩
  have hf : fd.toInt = 0 := by have := ux_S_f h; omega
  exact ux_S_wn h hf hj q h2
theorem ux_ts2 (h : ux_S f n a st kd wd nb fd pl r) (hf : fd.toInt = 0) (h1 : kd.toInt ≠ 60) (h2 : kd.toInt ≠ 61) : ux_bn r (ux_t2 (ux_B f n) V E) = r := by
  have k := ux_S_k h hf
  have q := ux_S_1 h hf
  rw [ux_bnO q]
  unfold ux_t2
  rw [if_neg (by omega)]
  exact (ux_r_z q).symm
theorem ux_ts3 (h : ux_S f n a st kd wd nb fd pl r) (hf : fd.toInt = 0) (h1 : kd.toInt = 60 ∨ kd.toInt = 61) : ux_bn r (ux_t2 (ux_B f n) V E) = ux_sm (ux_B f n) V E (ux_te (ux_B f n) r.2) := by
  have k := ux_S_k h hf
  have q := ux_S_1 h hf
  rw [ux_bnO q]
  unfold ux_t2
  rw [if_pos (by omega)]
theorem ux_nt_0 (h : z.toInt = 0) : ux_nt B V E 6 p = ux_nt B V E (6 - z.toNatClampNeg) (0, p).2 := by
  rw [ux_tcl, h]; rfl
theorem ux_nt_s (hm : ux_mw B p 9) (h0 : 0 ≤ z.toInt) (h6 : z.toInt < 6) (hc : c.toInt = z.toInt + 1) : ux_nt B V E (6 - z.toNatClampNeg) p = ux_nt B V E (6 - c.toNatClampNeg) (ux_te B p) := by
  have e1 : 6 - z.toNatClampNeg = (6 - c.toNatClampNeg) + 1 := by rw [ux_tcl, ux_tcl]; omega
  rw [e1]
  exact ux_ip hm
theorem ux_nt_a (h : ux_S f n a st kd wd nb fd pl r) (hf : fd.toInt = 0) (hm : ux_mw (ux_B f n) r.2 9) (h6 : z.toInt = 6) : ux_nt (ux_B f n) V E (6 - z.toNatClampNeg) r.2 = ux_w (ux_B f n) (2 : Int32).toInt.toNat r := by
  have e1 : 6 - z.toNatClampNeg = 0 := by rw [ux_tcl]; omega
  unfold ux_w
  rw [e1, ux_bnO (ux_S_1 h hf)]
  exact ux_ip hm
theorem ux_nt_b (hm : ¬ ux_mw B p 9) : ux_nt B V E k p = ux_ts B V E p := by
  cases k with
  | zero => exact ux_in hm
  | succ k => exact ux_in hm
theorem ux_ex_s {d : Nat} (h : 1 ≤ d) : ux_ex B V d p = ux_or B V (ux_ex B V (d - 1)) p := by
  cases d with
  | zero => omega
  | succ d => rfl
theorem ux_ex1 {d : Nat} (hd : d = 0) (h : ux_S f n a st kd wd nb fd pl (0, p)) (hf : fd.toInt = 0) (hk : kd.toInt = 2 ∨ kd.toInt = 1 ∨ kd.toInt = 40) : ux_ex (ux_B f n) V d p = ux_w (ux_B f n) (2 : Int32).toInt.toNat (0, p) := by
  have k : kd.toInt = (ux_tk (ux_B f n) p : Int) := ux_S_k h hf
  subst hd
  show (if ux_tk (ux_B f n) p = 1 ∨ ux_tk (ux_B f n) p = 2 ∨ ux_tk (ux_B f n) p = 40 then (2, ux_tb (ux_B f n) p) else (1, ux_tb (ux_B f n) p)) = _
  rw [if_pos (by omega)]
  rfl
theorem ux_ex2 {d : Nat} (hd : d = 0) (h : ux_S f n a st kd wd nb fd pl (0, p)) (hf : fd.toInt = 0) (hk : kd.toInt ≠ 2) (hk1 : kd.toInt ≠ 1) (hk2 : kd.toInt ≠ 40) : ux_ex (ux_B f n) V d p = ux_w (ux_B f n) (1 : Int32).toInt.toNat (0, p) := by
  have k : kd.toInt = (ux_tk (ux_B f n) p : Int) := ux_S_k h hf
  subst hd
  show (if ux_tk (ux_B f n) p = 1 ∨ ux_tk (ux_B f n) p = 2 ∨ ux_tk (ux_B f n) p = 40 then (2, ux_tb (ux_B f n) p) else (1, ux_tb (ux_B f n) p)) = _
  rw [if_neg (by omega)]
  rfl
end UXX
