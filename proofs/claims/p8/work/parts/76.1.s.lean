/-! the reference's reading of a token, held against the text -/
def ux_tm (k : Nat) : Nat := if k ≤ 2 then k else if k = 4 then 4 else 3
/-- the tape's numbers are bytes -/
def ux_tp (f : Nat → Int32) (n : Int32) : Prop := ∀ k : Nat, (k : Int) < n.toInt → 0 ≤ (f k).toInt ∧ (f k).toInt ≤ 255
def ux_Q (f : Nat → Int32) (n a bg sp tk nb : Int32) (p : Nat) : Prop :=
  bg.toInt = (ux_tb (ux_B f n) p : Int) ∧ a.toInt = (ux_te (ux_B f n) p : Int) ∧ sp.toInt = (ux_te (ux_B f n) p : Int) ∧ tk.toInt = (ux_tm (ux_tk (ux_B f n) p) : Int) ∧ (ux_tk (ux_B f n) p = 2 → ux_te (ux_B f n) p - ux_tb (ux_B f n) p ≤ 4 → nb.toInt = (ux_tn (ux_B f n) p : Int)) ∧ (ux_tk (ux_B f n) p ≤ 2 ∨ ux_tk (ux_B f n) p = 4 ∨ (5 ≤ ux_tk (ux_B f n) p ∧ (f bg.toNatClampNeg).toInt = (ux_tk (ux_B f n) p : Int)))
def ux_M (f : Nat → Int32) (n a bg sp tk nb bd bp : Int32) (r : Nat × Nat) : Prop :=
  ux_tp f n ∧ ((r.1 = 0 ∧ bd.toInt = 0 ∧ ux_Q f n a bg sp tk nb r.2) ∨ (r.1 ≠ 0 ∧ bd.toInt = (r.1 : Int) ∧ bp.toInt = (r.2 : Int)))
def ux_is (x : Int32) (P : Prop) : Prop := (x.toInt = 1 ∧ P) ∨ (x.toInt = 0 ∧ ¬ P)
def ux_b0 (f : Nat → Int32) (n a b : Int32) (c : Nat) : Prop := ∀ j : Nat, a.toInt ≤ (j : Int) → (j : Int) < b.toInt → ux_k (ux_B f n j) = c
def ux_dm (f : Nat → Int32) (n b i s : Int32) : Prop := i.toInt - b.toInt ≤ 4 → s.toInt = (ux_dv (ux_B f n) b.toInt.toNat (i.toInt.toNat - b.toInt.toNat) : Int)
def ux_im (B : Nat → Nat) (r : Nat × Nat) (i : Nat) (u k : Int32) : Prop := (u.toInt = 0 ∧ ¬ ux_cw B i r) ∨ (u.toInt = 1 ∧ r.1 = 0 ∧ ux_tk B r.2 = 1 ∧ ux_te B r.2 = ux_tb B r.2 + ux_wl i ∧ ∀ j : Nat, (j : Int) < k.toInt → B (ux_tb B r.2 + j) = ux_wc i j)
/-- which of the words it is, if one -/
def ux_wn (B : Nat → Nat) (r : Nat × Nat) (N : Nat) (k : Int32) : Prop := ∀ j : Nat, (j : Int) < k.toInt → ¬ ux_cw B ((ux_ws N).getD j 0) r
def ux_wh (B : Nat → Nat) (r : Nat × Nat) (N : Nat) (x : Int32) : Prop := (x.toInt = -1 ∧ ∀ j : Nat, j < N → ¬ ux_cw B ((ux_ws N).getD j 0) r) ∨ (0 ≤ x.toInt ∧ x.toInt < (N : Int) ∧ ux_cw B ((ux_ws N).getD x.toInt.toNat 0) r)
noncomputable def ux_nw (B : Nat → Nat) (m p : Nat) : Nat × Nat := if ux_tk B p = 2 then (if m < ux_tn B p then (2, ux_tb B p) else (0, p)) else (1, ux_tb B p)
theorem ux_b1 {x : Nat} : ((1, x) : Nat × Nat).1 ≠ 0 := (show (1 : Nat) ≠ 0 by decide)
theorem ux_b2 {x : Nat} : ((2, x) : Nat × Nat).1 ≠ 0 := (show (2 : Nat) ≠ 0 by decide)
section UXM
variable {f : Nat → Int32} {n a b c i s e bg sp tk nb bd bp x y z : Int32} {r r' : Nat × Nat} {p k j N m : Nat} {B : Nat → Nat} {V : Nat → Prop} {E : Nat → Nat × Nat} {P : Prop}
theorem ux_tcl2 (x : Int32) : x.toNatClampNeg = x.toInt.toNat := rfl
theorem ux_M_eq (h : ux_M f n a bg sp tk nb bd bp r) (q : r' = r) : ux_M f n a bg sp tk nb bd bp r' := by rw [q]; exact h
theorem ux_M_f (h : ux_M f n a bg sp tk nb bd bp r) : bd.toInt = (r.1 : Int) := by
  rcases h.2 with h | h
  · rw [h.1]; exact h.2.1
  · exact h.2.1
theorem ux_M_1 (h : ux_M f n a bg sp tk nb bd bp r) (hf : bd.toInt = 0) : r.1 = 0 := by have := ux_M_f h; omega
theorem ux_M_b (h : ux_M f n a bg sp tk nb bd bp r) (hf : bd.toInt ≠ 0) : r.1 ≠ 0 := by have := ux_M_f h; omega
theorem ux_M_Q (h : ux_M f n a bg sp tk nb bd bp r) (hf : bd.toInt = 0) : ux_Q f n a bg sp tk nb r.2 := by
  rcases h.2 with h | h
  · exact h.2.2
  · have := h.1; have := h.2.1; omega
theorem ux_r_z2 (h : r.1 = 0) : r = (0, r.2) := by
  cases r with
  | mk u v => cases h; rfl
theorem ux_M_mk (ht : ux_tp f n) (h : ux_Q f n a bg sp tk nb p) (hf : bd.toInt = 0) : ux_M f n a bg sp tk nb bd bp (0, p) := ⟨ht, Or.inl ⟨rfl, hf, h⟩⟩
theorem ux_M_a (h : ux_M f n a bg sp tk nb bd bp r) (hf : bd.toInt = 0) : a.toInt.toNat = ux_te (ux_B f n) r.2 := by have := (ux_M_Q h hf).2.1; omega
theorem ux_M_k (h : ux_M f n a bg sp tk nb bd bp r) (hf : bd.toInt = 0) : (tk.toInt = (ux_tk (ux_B f n) r.2 : Int) ∧ tk.toInt ≤ 2) ∨ (tk.toInt = 4 ∧ ux_tk (ux_B f n) r.2 = 4) ∨ (tk.toInt = 3 ∧ 5 ≤ ux_tk (ux_B f n) r.2 ∧ (f bg.toNatClampNeg).toInt = (ux_tk (ux_B f n) r.2 : Int)) := by
  obtain ⟨-, -, -, h4, -, h6⟩ := ux_M_Q h hf
  unfold ux_tm at h4
  generalize ux_tk (ux_B f n) r.2 = q at h4 h6 ⊢
  rcases h6 with h6 | h6 | h6
  · rw [if_pos h6] at h4; exact Or.inl ⟨h4, by omega⟩
  · rw [if_neg (by omega), if_pos h6] at h4; exact Or.inr (Or.inl ⟨h4, h6⟩)
  · rw [if_neg (by omega), if_neg (by omega)] at h4; exact Or.inr (Or.inr ⟨h4, h6.1, h6.2⟩)
/-! a step on -/
theorem ux_b0_nil (h : b.toInt ≤ a.toInt) {c : Nat} : ux_b0 f n a b c := fun j h1 h2 => by omega
theorem ux_kat (ht : ux_tp f n) (h0 : 0 ≤ b.toInt) (h1 : b.toInt < n.toInt ∨ y.toInt = -1) (h2 : n.toInt ≤ b.toInt ∨ y.toInt = (f b.toNatClampNeg).toInt) : (n.toInt ≤ b.toInt ∧ y.toInt = -1 ∧ ux_k (ux_B f n b.toInt.toNat) = 0) ∨ (b.toInt < n.toInt ∧ 0 ≤ y.toInt ∧ ux_k (ux_B f n b.toInt.toNat) = ux_kb y ∧ y = f b.toNatClampNeg) := by
  by_cases q : b.toInt < n.toInt
  · refine Or.inr ⟨q, ?_, ?_, ?_⟩
    · have := ht b.toNatClampNeg (by rw [ux_tcl2]; omega)
      omega
    · rw [ux_kB (by omega)]
      have e : y = f b.toNatClampNeg := Int32.toInt_inj.mp (by omega)
      rw [e]; rfl
    · exact Int32.toInt_inj.mp (by omega)
  · exact Or.inl ⟨by omega, by omega, ux_kE (by omega)⟩
theorem ux_kb3 (h : y.toInt = 32 ∨ y.toInt = 10) : ux_kb y = 3 := by
  have q := ux_kb_of (x := y) (r := (3 : Int32)) (Or.inl ⟨rfl, h⟩)
  have : (3 : Int32).toInt = 3 := rfl
  omega
theorem ux_kb1 (h : 97 ≤ y.toInt ∧ y.toInt ≤ 122) : ux_kb y = 1 := by
  have q := ux_kb_of (x := y) (r := (1 : Int32)) (Or.inr (Or.inr (Or.inl ⟨rfl, h⟩)))
  have : (1 : Int32).toInt = 1 := rfl
  omega
theorem ux_kb2 (h : 48 ≤ y.toInt ∧ y.toInt ≤ 57) : ux_kb y = 2 := by
  have q := ux_kb_of (x := y) (r := (2 : Int32)) (Or.inr (Or.inr (Or.inr (Or.inl ⟨rfl, h⟩))))
  have : (2 : Int32).toInt = 2 := rfl
  omega
theorem ux_kbS (h : y.toInt = 59 ∨ y.toInt = 40 ∨ y.toInt = 41 ∨ y.toInt = 43 ∨ y.toInt = 45 ∨ y.toInt = 42 ∨ y.toInt = 47 ∨ y.toInt = 60 ∨ y.toInt = 61) : (ux_kb y : Int) = y.toInt := (ux_kb_of (x := y) (r := y) (Or.inr (Or.inl ⟨rfl, h⟩))).symm
theorem ux_kb4 (h : y.toInt ≠ 32 ∧ y.toInt ≠ 10 ∧ y.toInt ≠ 59 ∧ y.toInt ≠ 40 ∧ y.toInt ≠ 41 ∧ y.toInt ≠ 43 ∧ y.toInt ≠ 45 ∧ y.toInt ≠ 42 ∧ y.toInt ≠ 47 ∧ y.toInt ≠ 60 ∧ y.toInt ≠ 61 ∧ (y.toInt < 97 ∨ 122 < y.toInt) ∧ (y.toInt < 48 ∨ 57 < y.toInt)) : ux_kb y = 4 := by
  have q := ux_kb_of (x := y) (r := (4 : Int32)) (Or.inr (Or.inr (Or.inr (Or.inr ⟨rfl, h⟩))))
  have : (4 : Int32).toInt = 4 := rfl
  omega
/-- what isn't of a kind -/
theorem ux_kbn (y : Int32) : (ux_kb y = 3 → y.toInt = 32 ∨ y.toInt = 10) ∧ (ux_kb y = 1 → 97 ≤ y.toInt ∧ y.toInt ≤ 122) ∧ (ux_kb y = 2 → 48 ≤ y.toInt ∧ y.toInt ≤ 57) := by
  unfold ux_kb ux_k
  by_cases q : 0 < y.toInt ∧ y.toInt < 128
  · rw [if_pos q]
    generalize ek : y.toInt.toNat = k
    have : ((k : Nat) : Int) = y.toInt := by omega
    refine ⟨fun h => ?_, fun h => ?_, fun h => ?_⟩ <;> ((repeat' split at h) <;> omega)
  · rw [if_neg q]
    exact ⟨fun h => absurd h (by decide), fun h => absurd h (by decide), fun h => absurd h (by decide)⟩
theorem ux_b0_add {c : Nat} (h : ux_b0 f n a i c) (h0 : 0 ≤ i.toInt) (hk : ux_k (ux_B f n i.toInt.toNat) = c) (hb : b.toInt = i.toInt + 1) : ux_b0 f n a b c := fun j h1 h2 => by
  by_cases q : j = i.toInt.toNat
  · rw [q]; exact hk
  · exact h j h1 (by omega)
theorem ux_b3_add (ht : ux_tp f n) (h : ux_b0 f n a i 3) (h0 : 0 ≤ i.toInt) (h1 : i.toInt < n.toInt ∨ y.toInt = -1) (h2 : n.toInt ≤ i.toInt ∨ y.toInt = (f i.toNatClampNeg).toInt) (hy : y.toInt = 32 ∨ y.toInt = 10) (hb : b.toInt = i.toInt + 1) : ux_b0 f n a b 3 := by
  rcases ux_kat ht h0 h1 h2 with q | q
  · omega
  · exact ux_b0_add h h0 (by rw [q.2.2.1]; exact ux_kb3 hy) hb
theorem ux_b1_add (ht : ux_tp f n) (h : ux_b0 f n a i 1) (h0 : 0 ≤ i.toInt) (h1 : i.toInt < n.toInt ∨ y.toInt = -1) (h2 : n.toInt ≤ i.toInt ∨ y.toInt = (f i.toNatClampNeg).toInt) (hy : 97 ≤ y.toInt ∧ y.toInt ≤ 122) (hb : b.toInt = i.toInt + 1) : ux_b0 f n a b 1 := by
  rcases ux_kat ht h0 h1 h2 with q | q
  · omega
  · exact ux_b0_add h h0 (by rw [q.2.2.1]; exact ux_kb1 hy) hb
theorem ux_b2_add (ht : ux_tp f n) (h : ux_b0 f n a i 2) (h0 : 0 ≤ i.toInt) (h1 : i.toInt < n.toInt ∨ y.toInt = -1) (h2 : n.toInt ≤ i.toInt ∨ y.toInt = (f i.toNatClampNeg).toInt) (hy : 48 ≤ y.toInt ∧ y.toInt ≤ 57) (hb : b.toInt = i.toInt + 1) : ux_b0 f n a b 2 := by
  rcases ux_kat ht h0 h1 h2 with q | q
  · omega
  · exact ux_b0_add h h0 (by rw [q.2.2.1]; exact ux_kb2 hy) hb
theorem ux_b0_R {c : Nat} (h : ux_b0 f n a b c) (h0 : 0 ≤ a.toInt) (hab : a.toInt ≤ b.toInt) (hk : ux_k (ux_B f n b.toInt.toNat) ≠ c) : ux_R (ux_B f n) c a.toInt.toNat b.toInt.toNat := ⟨by omega, fun j q1 q2 => h j (by omega) (by omega), hk⟩
theorem ux_st_b (ht : ux_tp f n) (h : ux_b0 f n a b 3) (h0 : 0 ≤ a.toInt) (hab : a.toInt ≤ b.toInt) (h1 : b.toInt < n.toInt ∨ y.toInt = -1) (h2 : n.toInt ≤ b.toInt ∨ y.toInt = (f b.toNatClampNeg).toInt) (hy : y.toInt ≠ 32 ∧ y.toInt ≠ 10) : ux_tb (ux_B f n) a.toInt.toNat = b.toInt.toNat := by
  refine ux_run_eq (ux_b0_R h h0 hab ?_)
  rcases ux_kat ht (by omega) h1 h2 with q | q
  · rw [q.2.2]; decide
  · rw [q.2.2.1]
    intro w
    have := (ux_kbn y).1 w
    omega
theorem ux_st_e (ht : ux_tp f n) (h : ux_b0 f n a b 3) (h0 : 0 ≤ a.toInt) (hab : a.toInt ≤ b.toInt) (h1 : b.toInt < n.toInt ∨ y.toInt = -1) (h2 : n.toInt ≤ b.toInt ∨ y.toInt = (f b.toNatClampNeg).toInt) (hy : y.toInt = -1) (hf : bd.toInt = 0) : ux_M f n b b b (0 : Int32) nb bd bp (0, a.toInt.toNat) := by
  have e1 := ux_st_b ht h h0 hab h1 h2 (by omega)
  rcases ux_kat ht (by omega) h1 h2 with q | q
  · have e2 : ux_tk (ux_B f n) a.toInt.toNat = 0 := by unfold ux_tk; rw [e1]; exact q.2.2
    have e3 : ux_te (ux_B f n) a.toInt.toNat = b.toInt.toNat := by unfold ux_te; rw [if_neg (by omega), if_pos e2, e1]
    refine ux_M_mk (p := a.toInt.toNat) ht ⟨?_, ?_, ?_, ?_, fun w => by omega, Or.inl (by omega)⟩ hf
    · rw [e1]; omega
    · rw [e3]; omega
    · rw [e3]; omega
    · rw [e2]; rfl
  · omega
theorem ux_st_w (ht : ux_tp f n) (h : ux_b0 f n a b 3) (h0 : 0 ≤ a.toInt) (hab : a.toInt ≤ b.toInt) (h1 : b.toInt < n.toInt ∨ y.toInt = -1) (h2 : n.toInt ≤ b.toInt ∨ y.toInt = (f b.toNatClampNeg).toInt) (hy : 97 ≤ y.toInt ∧ y.toInt ≤ 122) (hw : ux_b0 f n b e 1) (hbe : b.toInt ≤ e.toInt) (h3 : e.toInt < n.toInt ∨ z.toInt = -1) (h4 : n.toInt ≤ e.toInt ∨ z.toInt = (f e.toNatClampNeg).toInt) (hz : z.toInt < 97 ∨ 122 < z.toInt) (hf : bd.toInt = 0) : ux_M f n e b e (1 : Int32) nb bd bp (0, a.toInt.toNat) := by
  have e1 := ux_st_b ht h h0 hab h1 h2 (by omega)
  rcases ux_kat ht (by omega) h1 h2 with q | q
  · omega
  · have e2 : ux_tk (ux_B f n) a.toInt.toNat = 1 := by unfold ux_tk; rw [e1, q.2.2.1]; exact ux_kb1 hy
    have e3 : ux_te (ux_B f n) a.toInt.toNat = e.toInt.toNat := by
      unfold ux_te
      rw [if_pos (Or.inl e2), e2, e1]
      refine ux_run_eq (ux_b0_R hw (by omega) hbe ?_)
      rcases ux_kat ht (by omega) h3 h4 with t | t
      · rw [t.2.2]; decide
      · rw [t.2.2.1]; intro w; have := (ux_kbn z).2.1 w; omega
    refine ux_M_mk (p := a.toInt.toNat) ht ⟨?_, ?_, ?_, ?_, fun w => by omega, Or.inl (by omega)⟩ hf
    · rw [e1]; omega
    · rw [e3]; omega
    · rw [e3]; omega
    · rw [e2]; rfl
theorem ux_st_n (ht : ux_tp f n) (h : ux_b0 f n a b 3) (h0 : 0 ≤ a.toInt) (hab : a.toInt ≤ b.toInt) (h1 : b.toInt < n.toInt ∨ y.toInt = -1) (h2 : n.toInt ≤ b.toInt ∨ y.toInt = (f b.toNatClampNeg).toInt) (hy : 48 ≤ y.toInt ∧ y.toInt ≤ 57) (hw : ux_b0 f n b e 2) (hbe : b.toInt ≤ e.toInt) (h3 : e.toInt < n.toInt ∨ z.toInt = -1) (h4 : n.toInt ≤ e.toInt ∨ z.toInt = (f e.toNatClampNeg).toInt) (hz : z.toInt < 48 ∨ 57 < z.toInt) (hn : ux_dm f n b e nb) (hf : bd.toInt = 0) : ux_M f n e b e (2 : Int32) nb bd bp (0, a.toInt.toNat) := by
  have e1 := ux_st_b ht h h0 hab h1 h2 (by omega)
  rcases ux_kat ht (by omega) h1 h2 with q | q
  · omega
  · have e2 : ux_tk (ux_B f n) a.toInt.toNat = 2 := by unfold ux_tk; rw [e1, q.2.2.1]; exact ux_kb2 hy
    have e3 : ux_te (ux_B f n) a.toInt.toNat = e.toInt.toNat := by
      unfold ux_te
      rw [if_pos (Or.inr e2), e2, e1]
      refine ux_run_eq (ux_b0_R hw (by omega) hbe ?_)
      rcases ux_kat ht (by omega) h3 h4 with t | t
      · rw [t.2.2]; decide
      · rw [t.2.2.1]; intro w; have := (ux_kbn z).2.2 w; omega
    refine ux_M_mk (p := a.toInt.toNat) ht ⟨?_, ?_, ?_, ?_, fun w w2 => ?_, Or.inl (by omega)⟩ hf
    · rw [e1]; omega
    · rw [e3]; omega
    · rw [e3]; omega
    · rw [e2]; rfl
    · rw [e1, e3] at w2
      unfold ux_tn
      rw [e1, e3, if_neg (by omega)]
      exact hn (by omega)
theorem ux_st_s (ht : ux_tp f n) (h : ux_b0 f n a b 3) (h0 : 0 ≤ a.toInt) (hab : a.toInt ≤ b.toInt) (h1 : b.toInt < n.toInt ∨ y.toInt = -1) (h2 : n.toInt ≤ b.toInt ∨ y.toInt = (f b.toNatClampNeg).toInt) (hy : y.toInt = 59 ∨ y.toInt = 40 ∨ y.toInt = 41 ∨ y.toInt = 43 ∨ y.toInt = 45 ∨ y.toInt = 42 ∨ y.toInt = 47 ∨ y.toInt = 60 ∨ y.toInt = 61) (he : e.toInt = b.toInt + 1) (hf : bd.toInt = 0) : ux_M f n e b e (3 : Int32) nb bd bp (0, a.toInt.toNat) := by
  have e1 := ux_st_b ht h h0 hab h1 h2 (by omega)
  rcases ux_kat ht (by omega) h1 h2 with q | q
  · omega
  · have e2 : ux_tk (ux_B f n) a.toInt.toNat = ux_kb y := by unfold ux_tk; rw [e1]; exact q.2.2.1
    have e4 := ux_kbS hy
    have e3 : ux_te (ux_B f n) a.toInt.toNat = b.toInt.toNat + 1 := by unfold ux_te; rw [if_neg (by omega), if_neg (by omega), e1]
    refine ux_M_mk (p := a.toInt.toNat) ht ⟨?_, ?_, ?_, ?_, fun w => by omega, Or.inr (Or.inr ⟨by omega, ?_⟩)⟩ hf
    · rw [e1]; omega
    · rw [e3]; omega
    · rw [e3]; omega
    · unfold ux_tm; rw [if_neg (by omega), if_neg (by omega)]; rfl
    · rw [← q.2.2.2, e2, e4]
theorem ux_st_x (ht : ux_tp f n) (h : ux_b0 f n a b 3) (h0 : 0 ≤ a.toInt) (hab : a.toInt ≤ b.toInt) (h1 : b.toInt < n.toInt ∨ y.toInt = -1) (h2 : n.toInt ≤ b.toInt ∨ y.toInt = (f b.toNatClampNeg).toInt) (hn1 : y.toInt ≠ -1) (hy : y.toInt ≠ 32 ∧ y.toInt ≠ 10 ∧ y.toInt ≠ 59 ∧ y.toInt ≠ 40 ∧ y.toInt ≠ 41 ∧ y.toInt ≠ 43 ∧ y.toInt ≠ 45 ∧ y.toInt ≠ 42 ∧ y.toInt ≠ 47 ∧ y.toInt ≠ 60 ∧ y.toInt ≠ 61 ∧ (y.toInt < 97 ∨ 122 < y.toInt) ∧ (y.toInt < 48 ∨ 57 < y.toInt)) (he : e.toInt = b.toInt + 1) (hf : bd.toInt = 0) : ux_M f n e b e (4 : Int32) nb bd bp (0, a.toInt.toNat) := by
  have e1 := ux_st_b ht h h0 hab h1 h2 (by omega)
  rcases ux_kat ht (by omega) h1 h2 with q | q
  · omega
  · have e2 : ux_tk (ux_B f n) a.toInt.toNat = 4 := by unfold ux_tk; rw [e1, q.2.2.1]; exact ux_kb4 hy
    have e3 : ux_te (ux_B f n) a.toInt.toNat = b.toInt.toNat + 1 := by unfold ux_te; rw [if_neg (by omega), if_neg (by omega), e1]
    refine ux_M_mk (p := a.toInt.toNat) ht ⟨?_, ?_, ?_, ?_, fun w => by omega, Or.inr (Or.inl e2)⟩ hf
    · rw [e1]; omega
    · rw [e3]; omega
    · rw [e3]; omega
    · rw [e2]; rfl
theorem ux_dm_0 (h1 : i.toInt = b.toInt) (h2 : s.toInt = 0) : ux_dm f n b i s := fun _ => by
  rw [h1, Nat.sub_self, h2]; rfl
theorem ux_dm_add (ht : ux_tp f n) (h : ux_dm f n b i s) (hb : 0 ≤ b.toInt) (hi : b.toInt ≤ i.toInt) (h1 : i.toInt < n.toInt ∨ y.toInt = -1) (h2 : n.toInt ≤ i.toInt ∨ y.toInt = (f i.toNatClampNeg).toInt) (hy : 48 ≤ y.toInt ∧ y.toInt ≤ 57) (hz : i.toInt + 1 - b.toInt ≤ 4 → z.toInt = 10 * s.toInt + y.toInt - 48) (hc : c.toInt = i.toInt + 1) : ux_dm f n b c z := fun w => by
  have h3 := h (by omega)
  rcases ux_kat ht (by omega) h1 h2 with q | q
  · omega
  · have g : (ux_B f n i.toInt.toNat : Int) = y.toInt := by
      unfold ux_B
      have e : f i.toInt.toNat = y := q.2.2.2.symm
      rw [if_pos (by omega), e, if_pos (by omega)]
      omega
    have e1 : c.toInt.toNat - b.toInt.toNat = (i.toInt.toNat - b.toInt.toNat) + 1 := by omega
    have e2 : b.toInt.toNat + (i.toInt.toNat - b.toInt.toNat) = i.toInt.toNat := by omega
    rw [e1]
    show z.toInt = ((10 * ux_dv (ux_B f n) b.toInt.toNat (i.toInt.toNat - b.toInt.toNat) + (ux_B f n (b.toInt.toNat + (i.toInt.toNat - b.toInt.toNat)) - 48) : Nat) : Int)
    rw [e2]
    have := hz (by omega)
    omega
theorem ux_min_of (q : z = if y < x then y else x) (hx : x.toInt = 100000) (hy : y.toInt ≤ 100000) : z.toInt = y.toInt := by
  by_cases w : y < x
  · rw [q, if_pos w]
  · have := iv_nlt w
    have := le_i this
    rw [q, if_neg w]; omega
theorem ux_mnD (q : z = if y < x then y else x) (hx : x.toInt = 100000) : (z.toInt = y.toInt ∧ y.toInt ≤ 100000) ∨ (z.toInt = 100000 ∧ 100000 ≤ y.toInt) := by
  by_cases w : y < x
  · have := lt_i w; rw [q, if_pos w]; omega
  · have := le_i (iv_nlt w); rw [q, if_neg w]; omega
/-! faults, signs, numbers -/
theorem ux_wr1 (h : ux_M f n a bg sp tk nb bd bp r) (hf : bd.toInt ≠ 0) : ux_M f n a bg sp tk nb bd bp (ux_w (ux_B f n) c.toInt.toNat r) := ux_M_eq h (ux_bnB (ux_M_b h hf))
theorem ux_wr2 (h : ux_M f n a bg sp tk nb bd bp r) (hf : bd.toInt = 0) (hc : 1 ≤ c.toInt) : ux_M f n a bg sp tk nb c bg (ux_w (ux_B f n) c.toInt.toNat r) := by
  have e : ux_w (ux_B f n) c.toInt.toNat r = (c.toInt.toNat, ux_tb (ux_B f n) r.2) := ux_bnO (ux_M_1 h hf)
  rw [e]
  exact ⟨h.1, Or.inr ⟨by show c.toInt.toNat ≠ 0; omega, by show c.toInt = (c.toInt.toNat : Int); omega, (ux_M_Q h hf).1⟩⟩
theorem ux_is_t (h : ux_is x P) (hx : x.toInt ≠ 0) : P := by
  rcases h with h | h
  · exact h.2
  · exact absurd h.1 hx
theorem ux_is_f (h : ux_is x P) (hx : x.toInt = 0) : ¬ P := by
  rcases h with h | h
  · have := h.1; omega
  · exact h.2
/-- the sign c stands there -/
def ux_ck (B : Nat → Nat) (c : Nat) (r : Nat × Nat) : Prop := r.1 = 0 ∧ ux_tk B r.2 = c
theorem ux_ik1 (h : ux_M f n a bg sp tk nb bd bp r) (hq : bd.toInt = 0 → tk.toInt ≠ 3 ∨ (f bg.toNatClampNeg).toInt ≠ c.toInt) (hc : 5 ≤ c.toInt) (hx : x.toInt = 0) : ux_is x (ux_ck (ux_B f n) c.toInt.toNat r) := by
  refine Or.inr ⟨hx, ?_⟩
  rintro ⟨h1, h2⟩
  have hf : bd.toInt = 0 := by have := ux_M_f h; omega
  have := hq hf
  have := ux_M_k h hf
  omega
theorem ux_ik2 (h : ux_M f n a bg sp tk nb bd bp r) (hf : bd.toInt = 0) (h3 : tk.toInt = 3) (h4 : (f bg.toNatClampNeg).toInt = c.toInt) (hx : x.toInt = 1) : ux_is x (ux_ck (ux_B f n) c.toInt.toNat r) := by
  have := ux_M_k h hf
  exact Or.inl ⟨hx, ux_M_1 h hf, by omega⟩
theorem ux_mk_n (h : ¬ ux_ck B m r) : ux_bn r (ux_mk B m) = ux_w B (1 : Int32).toInt.toNat r := by
  by_cases q : r.1 = 0
  · unfold ux_w
    rw [ux_bnO q, ux_bnO q]
    unfold ux_mk
    rw [if_neg (fun w => h ⟨q, w⟩)]; rfl
  · unfold ux_w; rw [ux_bnB q, ux_bnB q]
theorem ux_mk_y (h : ux_ck B m r) : ux_bn r (ux_mk B m) = (0, ux_te B r.2) := by
  rw [ux_bnO h.1]
  unfold ux_mk
  rw [if_pos h.2]
theorem ux_nw1 (h : ux_M f n a bg sp tk nb bd bp r) (hf : bd.toInt = 0) (hk : tk.toInt ≠ 2) : ux_bn r (ux_nw (ux_B f n) m) = ux_w (ux_B f n) (1 : Int32).toInt.toNat r := by
  have q := ux_M_1 h hf
  have k := ux_M_k h hf
  unfold ux_w
  rw [ux_bnO q, ux_bnO q]
  unfold ux_nw
  rw [if_neg (by omega)]; rfl
theorem ux_nw2 (h : ux_M f n a bg sp tk nb bd bp r) (hf : bd.toInt = 0) (hk : tk.toInt = 2) (hc : 0 ≤ c.toInt ∧ c.toInt ≤ 9999) (hq : 4 < sp.toInt - bg.toInt ∨ c.toInt < nb.toInt) : ux_bn r (ux_nw (ux_B f n) c.toInt.toNat) = ux_w (ux_B f n) (2 : Int32).toInt.toNat r := by
  have q := ux_M_1 h hf
  have k := ux_M_k h hf
  obtain ⟨q1, q2, q3, -, q5, -⟩ := ux_M_Q h hf
  unfold ux_w
  rw [ux_bnO q, ux_bnO q]
  have g : c.toInt.toNat < ux_tn (ux_B f n) r.2 := by
    by_cases w : ux_te (ux_B f n) r.2 - ux_tb (ux_B f n) r.2 ≤ 4
    · have := q5 (by omega) w
      omega
    · unfold ux_tn
      rw [if_pos (by omega)]; omega
  unfold ux_nw
  rw [if_pos (by omega), if_pos g]; rfl
theorem ux_nw3 (h : ux_M f n a bg sp tk nb bd bp r) (hf : bd.toInt = 0) (hk : tk.toInt = 2) (h4 : sp.toInt - bg.toInt ≤ 4) (hn : nb.toInt ≤ c.toInt) : ux_bn r (ux_nw (ux_B f n) c.toInt.toNat) = r ∧ nb.toInt = (ux_tn (ux_B f n) r.2 : Int) := by
  have q := ux_M_1 h hf
  have k := ux_M_k h hf
  obtain ⟨q1, q2, q3, -, q5, -⟩ := ux_M_Q h hf
  have g := q5 (by omega) (by omega)
  refine ⟨?_, g⟩
  rw [ux_bnO q]
  unfold ux_nw
  rw [if_pos (by omega), if_neg (by omega)]
  exact (ux_r_z2 q).symm
theorem ux_nw4 (h : ux_M f n a bg sp tk nb bd bp r) (hf : bd.toInt = 0) (hk : tk.toInt = 2) (h4 : sp.toInt - bg.toInt ≤ 4) (hn : nb.toInt < 0) : False := by
  have k := ux_M_k h hf
  obtain ⟨q1, q2, q3, -, q5, -⟩ := ux_M_Q h hf
  have g := q5 (by omega) (by omega)
  omega
theorem ux_nm_of (h : (ux_bn r (ux_nw B m)).1 = 0) : ux_bn r (ux_nm B m) = (0, ux_te B (ux_bn r (ux_nw B m)).2) := by
  by_cases q : r.1 = 0
  · rw [ux_bnO q] at h ⊢
    rw [ux_bnO q]
    unfold ux_nw at h ⊢
    unfold ux_nm
    by_cases w : ux_tk B r.2 = 2
    · rw [if_pos w] at h ⊢
      rw [if_pos w]
      by_cases t : m < ux_tn B r.2
      · rw [if_pos t] at h; exact absurd h ux_b2
      · rw [if_neg t] at h ⊢; rw [if_neg t]
    · rw [if_neg w] at h; exact absurd h ux_b1
  · rw [ux_bnB q] at h; exact absurd h q
theorem ux_nm_no (h : (ux_bn r (ux_nw B m)).1 ≠ 0) : ux_bn r (ux_nm B m) = ux_bn r (ux_nw B m) := by
  by_cases q : r.1 = 0
  · rw [ux_bnO q] at h ⊢
    rw [ux_bnO q]
    unfold ux_nw at h ⊢
    unfold ux_nm
    by_cases w : ux_tk B r.2 = 2
    · rw [if_pos w] at h ⊢
      rw [if_pos w]
      by_cases t : m < ux_tn B r.2
      · rw [if_pos t, if_pos t]
      · rw [if_neg t] at h; exact absurd rfl h
    · rw [if_neg w, if_neg w]
  · rw [ux_bnB q, ux_bnB q]
/-! words -/
theorem ux_im_0 (h : ux_M f n a bg sp tk nb bd bp r) {w : Nat} (hq : bd.toInt = 0 → tk.toInt ≠ 1 ∨ sp.toInt - bg.toInt ≠ (ux_wl w : Int)) (hx : x.toInt = 0) : ux_im (ux_B f n) r w x z := by
  refine Or.inl ⟨hx, ?_⟩
  rintro ⟨h1, h2⟩
  have hf : bd.toInt = 0 := by have := ux_M_f h; omega
  have k := ux_M_k h hf
  obtain ⟨q1, q2, q3, -⟩ := ux_M_Q h hf
  have w1 := h2.1
  have w2 := h2.2.1
  have := hq hf
  omega
theorem ux_im_1 (h : ux_M f n a bg sp tk nb bd bp r) {w : Nat} (hf : bd.toInt = 0) (hk : tk.toInt = 1) (hl : sp.toInt - bg.toInt = (ux_wl w : Int)) (hx : x.toInt = 1) (hz : z.toInt = 0) : ux_im (ux_B f n) r w x z := by
  have k := ux_M_k h hf
  obtain ⟨q1, q2, q3, -⟩ := ux_M_Q h hf
  exact Or.inr ⟨hx, ux_M_1 h hf, by omega, by omega, fun j hj => by omega⟩
theorem ux_im_s {w : Nat} {u v k2 g2 : Int32} (h : ux_M f n a bg sp tk nb bd bp r) (hi : ux_im (ux_B f n) r w u s) (hu : u.toInt ≠ 0) (hw : w < 17) (hs : 0 ≤ s.toInt) (hl : s.toInt < (ux_wl w : Int)) (hsp : sp.toInt ≤ n.toInt) (hz : z.toInt = bg.toInt + s.toInt) (ex : x = f z.toNatClampNeg) (ey : y = ux_wf w s.toNatClampNeg &&& 255) (hc : c.toInt = s.toInt + 1) (hv : (v.toInt = 1 ∧ y = x) ∨ (v.toInt = 0 ∧ ¬ y = x)) : ux_im (ux_B f n) r w v c := by
  rcases hi with hi | ⟨-, h1, h2, h3, h4⟩
  · exact absurd hi.1 hu
  · have hf : bd.toInt = 0 := by have := ux_M_f h; omega
    obtain ⟨q1, q2, q3, -⟩ := ux_M_Q h hf
    have t := ux_wc_b w hw s.toNatClampNeg (by have := (ux_wl_b _ hw).2; rw [ux_tcl2]; omega) (by rw [ux_tcl2 s]; omega)
    have ez : ux_tb (ux_B f n) r.2 + s.toNatClampNeg = z.toNatClampNeg := by rw [ux_tcl2, ux_tcl2]; omega
    have hn : ((z.toNatClampNeg : Nat) : Int) < n.toInt := by rw [ux_tcl2]; omega
    rcases hv with ⟨hv, exy⟩ | ⟨hv, exy⟩
    · refine Or.inr ⟨hv, h1, h2, h3, fun j hj => ?_⟩
      by_cases q : (j : Int) < s.toInt
      · exact h4 j q
      · have ej : j = s.toNatClampNeg := by rw [ux_tcl2]; omega
        rw [ej, ez]
        rw [← ey, exy] at t
        unfold ux_B
        rw [if_pos hn, ← ex, if_pos (by omega)]
        omega
    · refine Or.inl ⟨hv, ?_⟩
      rintro ⟨-, g⟩
      have g2 := g.2.2 s.toNatClampNeg (by rw [ux_tcl2 s]; omega)
      rw [ez] at g2
      unfold ux_B at g2
      rw [if_pos hn, ← ex] at g2
      refine exy (Int32.toInt_inj.mp ?_)
      rw [ey, t.2.2]
      split at g2 <;> omega
theorem ux_im_end {w : Nat} {u : Int32} (hi : ux_im (ux_B f n) r w u s) (hu : u.toInt = 0 ∨ (ux_wl w : Int) ≤ s.toInt) : ux_is u (ux_cw (ux_B f n) w r) := by
  rcases hi with hi | ⟨h0, h1, h2, h3, h4⟩
  · exact Or.inr hi
  · exact Or.inl ⟨h0, h1, h2, h3, fun k hk => h4 k (by omega)⟩
theorem ux_wn_0 (h : z.toInt = 0) : ux_wn B r N z := fun j hj => by omega
theorem ux_wn_s {w : Nat} (h : ux_wn B r N z) (h0 : 0 ≤ z.toInt) (hx : ux_is x (ux_cw B w r)) (h1 : x.toInt = 0) (hw : w = (ux_ws N).getD z.toNatClampNeg 0) (hc : c.toInt = z.toInt + 1) : ux_wn B r N c := fun j hj => by
  by_cases q : (j : Int) < z.toInt
  · exact h j q
  · have e : j = z.toNatClampNeg := by rw [ux_tcl2]; omega
    rw [e, ← hw]
    exact ux_is_f hx h1
theorem ux_wh_n (h : ux_wn B r N z) (h1 : (N : Int) ≤ z.toInt) (hx : x.toInt = -1) : ux_wh B r N x := Or.inl ⟨hx, fun j hj => h j (by omega)⟩
theorem ux_wh_y {w : Nat} (h0 : 0 ≤ z.toInt) (h1 : z.toInt < (N : Int)) (hx : ux_is x (ux_cw B w r)) (h2 : x.toInt ≠ 0) (hw : w = (ux_ws N).getD z.toNatClampNeg 0) : ux_wh B r N z := Or.inr ⟨h0, h1, by rw [← ux_tcl2, ← hw]; exact ux_is_t hx h2⟩
end UXM
