/-! the lines of a tower, as the reference goes through them -/
noncomputable def ux_at (B : Nat → Nat) (t p : Nat) : Nat × Nat := if 8 ≤ t then (2, ux_tb B p) else (0, ux_te B p)
noncomputable def ux_r0q (B : Nat → Nat) (q : Nat) : Nat × Nat := (ux_lp (ux_rc B) (ux_rF B) ((0, q), 0)).1
section UXR
variable {f : Nat → Int32} {n a bg sp tk nb bd bp t t' g hh x y z c : Int32} {r R X : Nat × Nat} {p q k j m g0 h0 d1 d2 d3 d4 : Nat} {F G : Nat → Nat × Nat} {B : Nat → Nat}
theorem ux_at1 (h : 8 ≤ t.toInt) : ux_bn r (ux_at B t.toInt.toNat) = ux_w B (2 : Int32).toInt.toNat r := by
  by_cases q : r.1 = 0
  · unfold ux_w
    rw [ux_bnO q, ux_bnO q]
    unfold ux_at
    rw [if_pos (by omega)]; rfl
  · unfold ux_w; rw [ux_bnB q, ux_bnB q]
theorem ux_at2 (h : t.toInt < 8) (q : r.1 = 0) : ux_bn r (ux_at B t.toInt.toNat) = (0, ux_te B r.2) := by
  rw [ux_bnO q]
  unfold ux_at
  rw [if_neg (by omega)]
theorem ux_glm : ux_bn r (ux_gl B k) = ux_bn (ux_bn (ux_bn (ux_bn r (ux_at B k)) (ux_nm B (9 : Int32).toInt.toNat)) (ux_nm B (9 : Int32).toInt.toNat)) (ux_nm B (99 : Int32).toInt.toNat) := by
  have e9 : (9 : Int32).toInt.toNat = 9 := rfl
  have e99 : (99 : Int32).toInt.toNat = 99 := rfl
  rw [e9, e99]
  by_cases q : r.1 = 0
  · rw [ux_bnO q, ux_bnO q]
    unfold ux_gl ux_at
    by_cases w : 8 ≤ k
    · have hb : ((2, ux_tb B r.2) : Nat × Nat).1 ≠ 0 := ux_b2
      rw [if_pos w, if_pos w, ux_bnB hb, ux_bnB hb, ux_bnB hb]
    · rw [if_neg w, if_neg w]
  · rw [ux_bnB q, ux_bnB q, ux_bnB q, ux_bnB q, ux_bnB q]
theorem ux_glx (hb : (ux_bn r (ux_at B k)).1 ≠ 0) : ux_bn r (ux_gl B k) = ux_bn r (ux_at B k) := by
  rw [ux_glm, ux_bnB hb, ux_bnB hb, ux_bnB hb]
theorem ux_plm : ux_bn r (ux_pl B m k) = ux_bn (ux_bn (ux_bn (ux_bn (ux_bn r (ux_at B k)) (ux_nm B (9 : Int32).toInt.toNat)) (ux_nm B (9 : Int32).toInt.toNat)) (ux_nm B (99 : Int32).toInt.toNat)) (ux_of B m) := by
  have e9 : (9 : Int32).toInt.toNat = 9 := rfl
  have e99 : (99 : Int32).toInt.toNat = 99 := rfl
  rw [e9, e99]
  by_cases q : r.1 = 0
  · rw [ux_bnO q, ux_bnO q]
    unfold ux_pl ux_at
    by_cases w : 8 ≤ k
    · have hb : ((2, ux_tb B r.2) : Nat × Nat).1 ≠ 0 := ux_b2
      rw [if_pos w, if_pos w, ux_bnB hb, ux_bnB hb, ux_bnB hb, ux_bnB hb]
    · rw [if_neg w, if_neg w]
  · rw [ux_bnB q, ux_bnB q, ux_bnB q, ux_bnB q, ux_bnB q, ux_bnB q]
theorem ux_plx (hb : (ux_bn r (ux_at B k)).1 ≠ 0) : ux_bn r (ux_pl B m k) = ux_bn r (ux_at B k) := by
  rw [ux_plm, ux_bnB hb, ux_bnB hb, ux_bnB hb, ux_bnB hb]
theorem ux_ofN (h : ¬ ux_cw B 3 r) : ux_bn r (ux_of B m) = r := by
  by_cases q : r.1 = 0
  · rw [ux_bnO q]
    exact (ux_in (fun w => h ⟨q, w⟩)).trans (ux_r_z2 q).symm
  · rw [ux_bnB q]
theorem ux_ofY (h : ux_cw B 3 r) : ux_bn r (ux_of B m) = ux_fm B m (ux_te B r.2) := by
  rw [ux_bnO h.1]; exact ux_ip h.2
/-- the family's number, as it is seen before it is gone over -/
theorem ux_fm1 (h : (ux_bn (0, q) (ux_nw B (9999 : Int32).toInt.toNat)).1 ≠ 0) : ux_fm B m q = ux_bn (0, q) (ux_nw B (9999 : Int32).toInt.toNat) := by
  have e : (9999 : Int32).toInt.toNat = 9999 := rfl
  rw [e, ux_bn0] at h ⊢
  unfold ux_fm
  unfold ux_nw at h ⊢
  by_cases w : ux_tk B q = 2
  · rw [if_pos w] at h ⊢
    by_cases v : 9999 < ux_tn B q
    · rw [if_pos v, if_neg (by omega)]
      unfold ux_nm
      rw [if_pos w, if_pos v]
    · rw [if_neg v] at h; exact absurd rfl h
  · rw [if_neg w, if_neg (fun u => w u.1)]
    unfold ux_nm
    rw [if_neg w]
theorem ux_nw_ok (h : (ux_bn (0, q) (ux_nw B (9999 : Int32).toInt.toNat)).1 = 0) : ux_tk B q = 2 ∧ ux_tn B q ≤ 9999 ∧ ux_bn (0, q) (ux_nw B (9999 : Int32).toInt.toNat) = (0, q) := by
  have e : (9999 : Int32).toInt.toNat = 9999 := rfl
  rw [e, ux_bn0] at h ⊢
  unfold ux_nw at h ⊢
  by_cases w : ux_tk B q = 2
  · rw [if_pos w] at h ⊢
    by_cases v : 9999 < ux_tn B q
    · rw [if_pos v] at h; exact absurd h ux_b2
    · rw [if_neg v]; exact ⟨w, by omega, rfl⟩
  · rw [if_neg w] at h; exact absurd h ux_b1
theorem ux_fm2 (h : (ux_bn (0, q) (ux_nw B (9999 : Int32).toInt.toNat)).1 = 0) (hx : x.toInt = (ux_tn B q : Int)) (hg : g.toInt ≤ x.toInt) : ux_fm B g.toInt.toNat q = ux_w B (3 : Int32).toInt.toNat (ux_bn (0, q) (ux_nw B (9999 : Int32).toInt.toNat)) := by
  obtain ⟨h1, h2, h3⟩ := ux_nw_ok h
  rw [h3]
  unfold ux_fm
  rw [if_pos ⟨h1, h2, by omega⟩]; rfl
theorem ux_fm3 (h : (ux_bn (0, q) (ux_nw B (9999 : Int32).toInt.toNat)).1 = 0) (hx : x.toInt = (ux_tn B q : Int)) (hg : x.toInt < g.toInt) : ux_fm B g.toInt.toNat q = (0, ux_te B (ux_bn (0, q) (ux_nw B (9999 : Int32).toInt.toNat)).2) := by
  obtain ⟨h1, h2, h3⟩ := ux_nw_ok h
  rw [h3]
  unfold ux_fm
  rw [if_neg (by omega)]
  unfold ux_nm
  rw [if_pos h1, if_neg (by omega)]
/-! rains -/
theorem ux_rw0 (h : ux_M f n a bg sp tk nb bd bp r) (hf : bd.toInt = 0) (hk : tk.toInt ≠ 2) {s : Nat} : ux_r0q (ux_B f n) r.2 = (ux_lp (ux_rc (ux_B f n)) (ux_rF (ux_B f n)) (ux_w (ux_B f n) (1 : Int32).toInt.toNat r, s)).1 := by
  have q := ux_M_1 h hf
  have k := ux_M_k h hf
  have e : ux_w (ux_B f n) (1 : Int32).toInt.toNat r = (1, ux_tb (ux_B f n) r.2) := ux_bnO q
  have e1 : ux_r1 (ux_B f n) 0 r.2 = (1, ux_tb (ux_B f n) r.2) := by
    unfold ux_r1 ux_nm
    rw [if_neg (by decide), if_neg (by omega)]
  rw [e, ux_rl_x (r := (1, ux_tb (ux_B f n) r.2)) ux_b1]
  unfold ux_r0q
  rw [ux_lp_t (show ux_rc (ux_B f n) ((0, r.2), 0) from ⟨rfl, Or.inr rfl⟩)]
  show (ux_lp (ux_rc (ux_B f n)) (ux_rF (ux_B f n)) (ux_r1 (ux_B f n) 0 r.2, 0 + 1)).1 = _
  rw [e1, ux_rl_x (r := (1, ux_tb (ux_B f n) r.2)) ux_b1]
theorem ux_rw1 (q : r.1 = 0) (ht : t.toInt = 0) : ux_r0q B r.2 = (ux_lp (ux_rc B) (ux_rF B) (r, t.toInt.toNat)).1 := by
  rw [ht]
  unfold ux_r0q
  rw [← ux_r_z2 q]
  rfl
theorem ux_rw2 (e : X = (ux_lp (ux_rc B) (ux_rF B) (r, t.toInt.toNat)).1) (q : r.1 = 0) (hk : ux_tk B r.2 = 2) (h8 : 8 ≤ t.toInt) : X = (ux_lp (ux_rc B) (ux_rF B) (ux_bn (ux_w B (2 : Int32).toInt.toNat r) (ux_nm B (9 : Int32).toInt.toNat), t'.toInt.toNat)).1 := by
  have e1 : ux_r1 B t.toInt.toNat r.2 = (2, ux_tb B r.2) := by unfold ux_r1; rw [if_pos (by omega)]
  have e2 : ux_w B (2 : Int32).toInt.toNat r = (2, ux_tb B r.2) := ux_bnO q
  have hb : ((2, ux_tb B r.2) : Nat × Nat).1 ≠ 0 := ux_b2
  rw [e2, ux_bnB hb]
  have s := ux_rl_s (t := t'.toInt.toNat) e ⟨q, Or.inl hk⟩ (fun w => by rw [e1] at w; exact absurd w hb)
  rw [e1] at s
  exact s
theorem ux_rw3 (e : X = (ux_lp (ux_rc B) (ux_rF B) (r, t.toInt.toNat)).1) (q : r.1 = 0) (hk : ux_tk B r.2 = 2) (h8 : t.toInt < 8) (ht : (ux_bn r (ux_nm B (9 : Int32).toInt.toNat)).1 = 0 → t'.toInt.toNat = t.toInt.toNat + 1) : X = (ux_lp (ux_rc B) (ux_rF B) (ux_bn r (ux_nm B (9 : Int32).toInt.toNat), t'.toInt.toNat)).1 := by
  have e1 : ux_r1 B t.toInt.toNat r.2 = ux_bn r (ux_nm B (9 : Int32).toInt.toNat) := by
    rw [ux_bnO q]; unfold ux_r1; rw [if_neg (by omega)]; rfl
  have s := ux_rl_s (t := t'.toInt.toNat) e ⟨q, Or.inl hk⟩ (fun w => ht (by rw [← e1]; exact w))
  rw [e1] at s
  exact s
theorem ux_rw4 (e : X = (ux_lp (ux_rc B) (ux_rF B) (r, t.toInt.toNat)).1) (h : r.1 ≠ 0 ∨ (ux_tk B r.2 ≠ 2 ∧ 1 ≤ t.toInt)) : X = r := ux_rl_e e (fun w => by
  have w1 : r.1 = 0 := w.1
  have w2 : ux_tk B r.2 = 2 ∨ t.toInt.toNat = 0 := w.2
  omega)
end UXR
/-! a line -/
section UXY
variable {f : Nat → Int32} {n a bg sp tk nb bd bp t t' g hh x y z c d r0 : Int32} {r R X : Nat × Nat} {p q k j m : Nat} {F G : Nat → Nat × Nat} {B : Nat → Nat} {s s' : (Nat × Nat) × Nat × Nat × Nat × Nat × Nat × Nat} {T T' : Nat → Int32}
/-- what is told so far: as the lines say -/
def ux_ld (T : Nat → Int32) (d bd : Int32) (s : (Nat × Nat) × Nat × Nat × Nat × Nat × Nat × Nat) : Prop := bd.toInt = 0 → (T 6).toInt = (s.2.1 : Int) ∧ (T 7).toInt = (s.2.2.1 : Int) ∧ d.toInt = (s.2.2.2.1 : Int) + 2 * s.2.2.2.2.1 + 4 * s.2.2.2.2.2.1 + 8 * s.2.2.2.2.2.2 ∧ s.2.2.2.1 ≤ 1 ∧ s.2.2.2.2.1 ≤ 1 ∧ s.2.2.2.2.2.1 ≤ 1 ∧ s.2.2.2.2.2.2 ≤ 1 ∧ (s.2.2.2.1 = 0 → (T 8).toInt = 0)
set_option maxRecDepth 20000 in
theorem ux_and1 : ∀ i : Nat, i < 16 → ((1 : Int32) &&& Int32.ofNat i = 0 ↔ i % 2 = 0) ∧ ((2 : Int32) &&& Int32.ofNat i = 0 ↔ i / 2 % 2 = 0) ∧ ((4 : Int32) &&& Int32.ofNat i = 0 ↔ i / 4 % 2 = 0) ∧ ((8 : Int32) &&& Int32.ofNat i = 0 ↔ i / 8 % 2 = 0) ∧ (Int32.ofNat i).toInt = (i : Int) ∧ (i % 2 = 0 → (Int32.ofNat i ||| 1).toInt = (i : Int) + 1) ∧ (i / 2 % 2 = 0 → (Int32.ofNat i ||| 2).toInt = (i : Int) + 2) ∧ (i / 4 % 2 = 0 → (Int32.ofNat i ||| 4).toInt = (i : Int) + 4) ∧ (i / 8 % 2 = 0 → (Int32.ofNat i ||| 8).toInt = (i : Int) + 8) ∧ (Int32.ofNat i ||| 0).toInt = (i : Int) := by decide +kernel
theorem ux_num {i : Nat} (hi : i < 16) (h : d.toInt = (i : Int)) : d = Int32.ofNat i := Int32.toInt_inj.mp (by rw [(ux_and1 i hi).2.2.2.2.1]; exact h)
theorem ux_bA {i j : Nat} (hi : i < 16) (e : d = Int32.ofNat i) (hj : i % 2 = 0 ↔ j = 0) : ((1 : Int32) &&& d = 0 ↔ j = 0) := by rw [e]; exact (ux_and1 i hi).1.trans hj
theorem ux_bB {i j : Nat} (hi : i < 16) (e : d = Int32.ofNat i) (hj : i / 2 % 2 = 0 ↔ j = 0) : ((2 : Int32) &&& d = 0 ↔ j = 0) := by rw [e]; exact (ux_and1 i hi).2.1.trans hj
theorem ux_bC {i j : Nat} (hi : i < 16) (e : d = Int32.ofNat i) (hj : i / 4 % 2 = 0 ↔ j = 0) : ((4 : Int32) &&& d = 0 ↔ j = 0) := by rw [e]; exact (ux_and1 i hi).2.2.1.trans hj
theorem ux_bD {i j : Nat} (hi : i < 16) (e : d = Int32.ofNat i) (hj : i / 8 % 2 = 0 ↔ j = 0) : ((8 : Int32) &&& d = 0 ↔ j = 0) := by rw [e]; exact (ux_and1 i hi).2.2.2.1.trans hj
theorem ux_oA {i : Nat} (hi : i < 16) (e : d = Int32.ofNat i) (hj : i % 2 = 0) : (d ||| 1).toInt = d.toInt + 1 := by rw [e, (ux_and1 i hi).2.2.2.2.2.1 hj, (ux_and1 i hi).2.2.2.2.1]
theorem ux_oB {i : Nat} (hi : i < 16) (e : d = Int32.ofNat i) (hj : i / 2 % 2 = 0) : (d ||| 2).toInt = d.toInt + 2 := by rw [e, (ux_and1 i hi).2.2.2.2.2.2.1 hj, (ux_and1 i hi).2.2.2.2.1]
theorem ux_oC {i : Nat} (hi : i < 16) (e : d = Int32.ofNat i) (hj : i / 4 % 2 = 0) : (d ||| 4).toInt = d.toInt + 4 := by rw [e, (ux_and1 i hi).2.2.2.2.2.2.2.1 hj, (ux_and1 i hi).2.2.2.2.1]
theorem ux_oD {i : Nat} (hi : i < 16) (e : d = Int32.ofNat i) (hj : i / 8 % 2 = 0) : (d ||| 8).toInt = d.toInt + 8 := by rw [e, (ux_and1 i hi).2.2.2.2.2.2.2.2.1 hj, (ux_and1 i hi).2.2.2.2.1]
theorem ux_oZ : (d ||| 0).toInt = d.toInt := by rw [Int32.or_zero]
theorem ux_bits (h : ux_ld T d bd s) (hf : bd.toInt = 0) : ((1 : Int32) &&& d = 0 ↔ s.2.2.2.1 = 0) ∧ ((2 : Int32) &&& d = 0 ↔ s.2.2.2.2.1 = 0) ∧ ((4 : Int32) &&& d = 0 ↔ s.2.2.2.2.2.1 = 0) ∧ ((8 : Int32) &&& d = 0 ↔ s.2.2.2.2.2.2 = 0) ∧ (s.2.2.2.1 = 0 → (d ||| 1).toInt = d.toInt + 1) ∧ (s.2.2.2.2.1 = 0 → (d ||| 2).toInt = d.toInt + 2) ∧ (s.2.2.2.2.2.1 = 0 → (d ||| 4).toInt = d.toInt + 4) ∧ (s.2.2.2.2.2.2 = 0 → (d ||| 8).toInt = d.toInt + 8) ∧ (d ||| 0).toInt = d.toInt := by
  obtain ⟨-, -, h3, h4, h5, h6, h7, -⟩ := h hf
  obtain ⟨i, ei⟩ : ∃ i : Nat, i = d.toInt.toNat := ⟨_, rfl⟩
  have hi : i < 16 := by omega
  have e : d = Int32.ofNat i := ux_num hi (by omega)
  exact ⟨ux_bA hi e (by omega), ux_bB hi e (by omega), ux_bC hi e (by omega), ux_bD hi e (by omega), fun w => ux_oA hi e (by omega), fun w => ux_oB hi e (by omega), fun w => ux_oC hi e (by omega), fun w => ux_oD hi e (by omega), ux_oZ⟩
theorem ux_wz (h : R.1 ≠ 0) : ux_w B k R = R := ux_bnB h
theorem ux_w1 (q : r.1 = 0) : ux_w B k r = (k, ux_tb B r.2) := ux_bnO q
theorem ux_mi0 (h : ux_cw B 0 s.1) (hg : g.toInt = (s.2.1 : Int)) : ux_li B s = (ux_bn (ux_bn s.1 (ux_gl B g.toInt.toNat)) (ux_mk B (59 : Int32).toInt.toNat), s.2.1 + 1, s.2.2.1, s.2.2.2.1, s.2.2.2.2.1, s.2.2.2.2.2.1, s.2.2.2.2.2.2) := by
  rw [ux_bnO (r := s.1) h.1, show g.toInt.toNat = s.2.1 by omega]; exact ux_li0 h.2
theorem ux_mi1 (h : ux_cw B 1 s.1 ∨ ux_cw B 2 s.1) (hg : g.toInt = (s.2.1 : Int)) (hp : hh.toInt = (s.2.2.1 : Int)) : ux_li B s = (ux_bn (ux_bn s.1 (ux_pl B g.toInt.toNat hh.toInt.toNat)) (ux_mk B (59 : Int32).toInt.toNat), s.2.1, s.2.2.1 + 1, s.2.2.2.1, s.2.2.2.2.1, s.2.2.2.2.2.1, s.2.2.2.2.2.2) := by
  have q : s.1.1 = 0 := h.elim (fun w => w.1) (fun w => w.1)
  rw [ux_bnO (r := s.1) q, show g.toInt.toNat = s.2.1 by omega, show hh.toInt.toNat = s.2.2.1 by omega]; exact ux_li1 (h.elim (fun w => Or.inl w.2) (fun w => Or.inr w.2))
theorem ux_mi10 (h : ux_cw B 10 s.1) (hd : s.2.2.2.1 = 0) : ux_li B s = (ux_bn (ux_rl B s.1.2) (ux_mk B (59 : Int32).toInt.toNat), s.2.1, s.2.2.1, 1, s.2.2.2.2.1, s.2.2.2.2.2.1, s.2.2.2.2.2.2) := by
  have e := ux_li10 (B := B) (r := s.1) (g := s.2.1) (h := s.2.2.1) (d1 := s.2.2.2.1) (d2 := s.2.2.2.2.1) (d3 := s.2.2.2.2.2.1) (d4 := s.2.2.2.2.2.2) h.2
  unfold ux_on at e
  rw [if_pos hd] at e
  exact e
theorem ux_mi4 (h : ux_cw B 4 s.1) (hd : s.2.2.2.2.1 = 0) : ux_li B s = (ux_bn (ux_ce B s.1.2) (ux_mk B (59 : Int32).toInt.toNat), s.2.1, s.2.2.1, s.2.2.2.1, 1, s.2.2.2.2.2.1, s.2.2.2.2.2.2) := by
  have e := ux_li4 (B := B) (r := s.1) (g := s.2.1) (h := s.2.2.1) (d1 := s.2.2.2.1) (d2 := s.2.2.2.2.1) (d3 := s.2.2.2.2.2.1) (d4 := s.2.2.2.2.2.2) h.2
  unfold ux_on at e
  rw [if_pos hd] at e
  exact e
theorem ux_mi5 (h : ux_cw B 5 s.1) (hd : s.2.2.2.2.2.1 = 0) : ux_li B s = (ux_bn (ux_ru B ux_VW s.1.2) (ux_mk B (59 : Int32).toInt.toNat), s.2.1, s.2.2.1, s.2.2.2.1, s.2.2.2.2.1, 1, s.2.2.2.2.2.2) := by
  have e := ux_li5 (B := B) (r := s.1) (g := s.2.1) (h := s.2.2.1) (d1 := s.2.2.2.1) (d2 := s.2.2.2.2.1) (d3 := s.2.2.2.2.2.1) (d4 := s.2.2.2.2.2.2) h.2
  unfold ux_on at e
  rw [if_pos hd] at e
  exact e
theorem ux_mi6 (h : ux_cw B 6 s.1) (hd : s.2.2.2.2.2.2 = 0) : ux_li B s = (ux_bn (ux_ru B ux_VS s.1.2) (ux_mk B (59 : Int32).toInt.toNat), s.2.1, s.2.2.1, s.2.2.2.1, s.2.2.2.2.1, s.2.2.2.2.2.1, 1) := by
  have e := ux_li6 (B := B) (r := s.1) (g := s.2.1) (h := s.2.2.1) (d1 := s.2.2.2.1) (d2 := s.2.2.2.2.1) (d3 := s.2.2.2.2.2.1) (d4 := s.2.2.2.2.2.2) h.2
  unfold ux_on at e
  rw [if_pos hd] at e
  exact e
/-- said twice -/
theorem ux_mx5 (h : (ux_cw B 10 s.1 ∧ s.2.2.2.1 ≠ 0) ∨ (ux_cw B 4 s.1 ∧ s.2.2.2.2.1 ≠ 0) ∨ (ux_cw B 5 s.1 ∧ s.2.2.2.2.2.1 ≠ 0) ∨ (ux_cw B 6 s.1 ∧ s.2.2.2.2.2.2 ≠ 0)) : (ux_li B s).1 = ux_w B (5 : Int32).toInt.toNat s.1 := by
  have hb : ((5, ux_tb B s.1.2) : Nat × Nat).1 ≠ 0 := (show (5 : Nat) ≠ 0 by decide)
  have e5 : ∀ {d : Nat} {F : Nat → Nat × Nat}, d ≠ 0 → ux_bn (ux_on B d F s.1.2) (ux_mk B 59) = (5, ux_tb B s.1.2) := fun {d F} w => by
    unfold ux_on; rw [if_neg w]; exact ux_bnB hb
  rcases h with ⟨h, w⟩ | ⟨h, w⟩ | ⟨h, w⟩ | ⟨h, w⟩
  · rw [ux_w1 h.1]
    have e := ux_li10 (B := B) (r := s.1) (g := s.2.1) (h := s.2.2.1) (d1 := s.2.2.2.1) (d2 := s.2.2.2.2.1) (d3 := s.2.2.2.2.2.1) (d4 := s.2.2.2.2.2.2) h.2
    exact (congrArg Prod.fst e).trans (e5 w)
  · rw [ux_w1 h.1]
    have e := ux_li4 (B := B) (r := s.1) (g := s.2.1) (h := s.2.2.1) (d1 := s.2.2.2.1) (d2 := s.2.2.2.2.1) (d3 := s.2.2.2.2.2.1) (d4 := s.2.2.2.2.2.2) h.2
    exact (congrArg Prod.fst e).trans (e5 w)
  · rw [ux_w1 h.1]
    have e := ux_li5 (B := B) (r := s.1) (g := s.2.1) (h := s.2.2.1) (d1 := s.2.2.2.1) (d2 := s.2.2.2.2.1) (d3 := s.2.2.2.2.2.1) (d4 := s.2.2.2.2.2.2) h.2
    exact (congrArg Prod.fst e).trans (e5 w)
  · rw [ux_w1 h.1]
    have e := ux_li6 (B := B) (r := s.1) (g := s.2.1) (h := s.2.2.1) (d1 := s.2.2.2.1) (d2 := s.2.2.2.2.1) (d3 := s.2.2.2.2.2.1) (d4 := s.2.2.2.2.2.2) h.2
    exact (congrArg Prod.fst e).trans (e5 w)
/-- no line's word -/
theorem ux_mx1 (q : s.1.1 = 0) (hs : ux_wh B s.1 2 x) (hx : x.toInt = -1) (n0 : ¬ ux_cw B 0 s.1) (n10 : ¬ ux_cw B 10 s.1) (n4 : ¬ ux_cw B 4 s.1) (n5 : ¬ ux_cw B 5 s.1) (n6 : ¬ ux_cw B 6 s.1) : (ux_li B s).1 = ux_w B (1 : Int32).toInt.toNat s.1 := by
  have n12 : ¬ ux_mw B s.1.2 1 ∧ ¬ ux_mw B s.1.2 2 := by
    rcases hs with ⟨-, hs⟩ | hs
    · exact ⟨fun w => hs 0 (by decide) ⟨q, w⟩, fun w => hs 1 (by decide) ⟨q, w⟩⟩
    · omega
  have e := ux_lix (B := B) (r := s.1) (g := s.2.1) (h := s.2.2.1) (d1 := s.2.2.2.1) (d2 := s.2.2.2.2.1) (d3 := s.2.2.2.2.2.1) (d4 := s.2.2.2.2.2.2) (fun w => n0 ⟨q, w⟩) n12.1 n12.2 (fun w => n10 ⟨q, w⟩) (fun w => n4 ⟨q, w⟩) (fun w => n5 ⟨q, w⟩) (fun w => n6 ⟨q, w⟩)
  rw [ux_w1 q]
  exact (congrArg Prod.fst e).trans (ux_bnB (r := (1, ux_tb B s.1.2)) (F := ux_mk B 59) ux_b1)
theorem ux_so (hs : ux_wh B r 2 x) (hx : x.toInt ≠ -1) : ux_cw B 1 r ∨ ux_cw B 2 r := by
  rcases hs with hs | ⟨h1, h2, h3⟩
  · exact absurd hs.1 hx
  · rcases (show x.toInt.toNat = 0 ∨ x.toInt.toNat = 1 by omega) with w | w
    · rw [w] at h3; exact Or.inl h3
    · rw [w] at h3; exact Or.inr h3
end UXY
theorem ux_w5 {B : Nat → Nat} {r : Nat × Nat} (q : r.1 = 0) : (ux_w B (5 : Int32).toInt.toNat r).1 ≠ 0 := by
  rw [ux_w1 q]; exact (show (5 : Nat) ≠ 0 by decide)
theorem ux_w11 {B : Nat → Nat} {r : Nat × Nat} (q : r.1 = 0) : (ux_w B (1 : Int32).toInt.toNat r).1 ≠ 0 := by
  rw [ux_w1 q]; exact (show (1 : Nat) ≠ 0 by decide)
section UXT
variable {f : Nat → Int32} {n n' a bg sp tk nb bd bp p t x fp cd : Int32} {r X : Nat × Nat} {s : (Nat × Nat) × Nat × Nat × Nat × Nat × Nat × Nat}
theorem ux_tp_le (h : ux_tp f n) (hn : n'.toInt ≤ n.toInt) : ux_tp f n' := fun k hk => h k (by omega)
theorem ux_lcM (h : ux_M f n a bg sp tk nb bd bp s.1) (hf : bd.toInt = 0) (hk : tk.toInt ≠ 0) : ux_lc (ux_B f n) s := by
  have k := ux_M_k h hf
  exact ⟨ux_M_1 h hf, fun w => by omega⟩
theorem ux_lcN (h : ux_M f n a bg sp tk nb bd bp s.1) (hq : bd.toInt = 0 → tk.toInt = 0) : ¬ ux_lc (ux_B f n) s := by
  rintro ⟨h1, h2⟩
  have hf : bd.toInt = 0 := by have := ux_M_f h; omega
  have k := ux_M_k h hf
  have := hq hf
  omega
theorem ux_finM (h : ux_M f n a bg sp tk nb bd bp r) (hx : x.toInt = bd.toInt) (hb : bd.toInt ≠ 0) (hp : fp.toInt = bp.toInt) : ux_fin x fp r := by
  have q := ux_M_b h hb
  refine ⟨by rw [hx]; exact ux_M_f h, fun _ => ?_, fun w => absurd w q⟩
  rw [hp]
  rcases h.2 with h | h
  · exact absurd h.1 q
  · exact h.2.2
theorem ux_fin0 (h : r.1 = 0) (hx : x.toInt = 0) (hp : fp.toInt = -1) : ux_fin x fp r := ⟨by rw [hx, h]; rfl, fun w => absurd h w, fun _ => hp⟩
/-- what tower answers: thrown, or the text's fault -/
def ux_tr (cd x fp p t : Int32) (f : Nat → Int32) : Prop := ((p.toInt < 0 ∨ t.toInt < p.toInt) ∧ cd.toInt = 1) ∨ (0 ≤ p.toInt ∧ p.toInt ≤ t.toInt ∧ cd.toInt = 0 ∧ ux_fin x fp (ux_tw (ux_B f p)))
end UXT
section UXZ
variable {g hh x k : Int32} {r : Nat × Nat} {B : Nat → Nat} {s : (Nat × Nat) × Nat × Nat × Nat × Nat × Nat × Nat}
/-- no word of those that are said once; or a fault already -/
def ux_97 (B : Nat → Nat) (s : (Nat × Nat) × Nat × Nat × Nat × Nat × Nat × Nat) (r : Nat × Nat) (k : Int32) : Prop := (k.toInt = 0 ∧ r = s.1 ∧ ¬ ux_cw B 10 s.1 ∧ ¬ ux_cw B 4 s.1 ∧ ¬ ux_cw B 5 s.1 ∧ ¬ ux_cw B 6 s.1) ∨ (r.1 ≠ 0 ∧ (ux_li B s).1 = r)
theorem ux_97a (h : ux_97 B s r k) (q : r.1 = 0) : k.toInt = 0 ∧ r = s.1 := h.elim (fun w => ⟨w.1, w.2.1⟩) (fun w => absurd q w.1)
theorem ux_97p (h : ux_97 B s r k) (hs : ux_wh B s.1 2 x) (hx : x.toInt ≠ -1) (hg : g.toInt = (s.2.1 : Int)) (hp : hh.toInt = (s.2.2.1 : Int)) : (ux_li B s).1 = ux_bn (ux_bn r (ux_pl B g.toInt.toNat hh.toInt.toNat)) (ux_mk B (59 : Int32).toInt.toNat) := by
  rcases h with ⟨-, e, -⟩ | ⟨q, e⟩
  · rw [e]; exact congrArg Prod.fst (ux_mi1 (ux_so hs hx) hg hp)
  · rw [e, ux_bnB q, ux_bnB q]
theorem ux_97s (h : ux_97 B s r k) (hc : ux_cw B 0 r) (hg : g.toInt = (s.2.1 : Int)) : (ux_li B s).1 = ux_bn (ux_bn r (ux_gl B g.toInt.toNat)) (ux_mk B (59 : Int32).toInt.toNat) := by
  rcases h with ⟨-, e, -⟩ | ⟨q, -⟩
  · rw [e] at hc ⊢; exact congrArg Prod.fst (ux_mi0 hc hg)
  · exact absurd hc.1 q
theorem ux_97x (h : ux_97 B s r k) (q0 : s.1.1 = 0) (hs : ux_wh B s.1 2 x) (hx : x.toInt = -1) (n0 : ¬ ux_cw B 0 r) : (ux_li B s).1 = ux_bn (ux_w B (1 : Int32).toInt.toNat r) (ux_mk B (59 : Int32).toInt.toNat) := by
  rcases h with ⟨-, e, n10, n4, n5, n6⟩ | ⟨q, e⟩
  · rw [e] at n0 ⊢
    rw [ux_mx1 q0 hs hx n0 n10 n4 n5 n6, ux_bnB (ux_w11 q0)]
  · rw [e, ux_wz q, ux_bnB q]
end UXZ
